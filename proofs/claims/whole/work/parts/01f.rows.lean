theorem dX2_bestCut_27 : decode cX2_bestCut 27 = .ok (.aload_n 0, 1) := by decide +kernel
theorem dX2_bestCut_28 : decode cX2_bestCut 28 = .ok (.iconst 0, 1) := by decide +kernel
theorem dX2_bestCut_29 : decode cX2_bestCut 29 = .ok (.bipush 61, 2) := by decide +kernel
theorem dX2_bestCut_31 : decode cX2_bestCut 31 = .ok (.invokevirtual 76, 3) := by decide +kernel
theorem dX2_bestCut_34 : decode cX2_bestCut 34 = .ok (.aload_n 0, 1) := by decide +kernel
theorem dX2_bestCut_35 : decode cX2_bestCut 35 = .ok (.getfield 7, 3) := by decide +kernel
theorem dX2_bestCut_38 : decode cX2_bestCut 38 = .ok (.sipush 5856, 3) := by decide +kernel
theorem dX2_bestCut_41 : decode cX2_bestCut 41 = .ok (.iload_n 3, 1) := by decide +kernel
theorem dX2_bestCut_42 : decode cX2_bestCut 42 = .ok (.iadd, 1) := by decide +kernel
theorem dX2_bestCut_43 : decode cX2_bestCut 43 = .ok (.iconst 2, 1) := by decide +kernel
theorem dX2_bestCut_44 : decode cX2_bestCut 44 = .ok (.iastore, 1) := by decide +kernel
theorem dX2_bestCut_45 : decode cX2_bestCut 45 = .ok (.aload_n 0, 1) := by decide +kernel
theorem dX2_bestCut_46 : decode cX2_bestCut 46 = .ok (.bipush 61, 2) := by decide +kernel
theorem dX2_bestCut_48 : decode cX2_bestCut 48 = .ok (.iconst 1, 1) := by decide +kernel
theorem dX2_bestCut_49 : decode cX2_bestCut 49 = .ok (.invokevirtual 73, 3) := by decide +kernel
theorem dX2_bestCut_52 : decode cX2_bestCut 52 = .ok (.istore 4, 2) := by decide +kernel
theorem dX2_bestCut_54 : decode cX2_bestCut 54 = .ok (.aload_n 0, 1) := by decide +kernel
theorem dX2_bestCut_55 : decode cX2_bestCut 55 = .ok (.iconst 1, 1) := by decide +kernel
theorem dX2_bestCut_56 : decode cX2_bestCut 56 = .ok (.invokevirtual 80, 3) := by decide +kernel
theorem dX2_bestCut_59 : decode cX2_bestCut 59 = .ok (.istore 5, 2) := by decide +kernel
theorem dX2_bestCut_61 : decode cX2_bestCut 61 = .ok (.iload 5, 2) := by decide +kernel
theorem dX2_bestCut_63 : decode cX2_bestCut 63 = .ok (.iload_n 2, 1) := by decide +kernel
theorem dX2_bestCut_64 : decode cX2_bestCut 64 = .ok (.if_icmp .le 7, 3) := by decide +kernel
theorem dX2_bestCut_67 : decode cX2_bestCut 67 = .ok (.iload_n 3, 1) := by decide +kernel
theorem dX2_bestCut_68 : decode cX2_bestCut 68 = .ok (.goto 4, 3) := by decide +kernel
theorem dX2_bestCut_71 : decode cX2_bestCut 71 = .ok (.iload_n 1, 1) := by decide +kernel
theorem dX2_bestCut_72 : decode cX2_bestCut 72 = .ok (.istore_n 1, 1) := by decide +kernel
theorem dX2_bestCut_73 : decode cX2_bestCut 73 = .ok (.iload 5, 2) := by decide +kernel
theorem dX2_bestCut_75 : decode cX2_bestCut 75 = .ok (.iload_n 2, 1) := by decide +kernel
theorem dX2_bestCut_76 : decode cX2_bestCut 76 = .ok (.if_icmp .le 8, 3) := by decide +kernel
theorem dX2_bestCut_79 : decode cX2_bestCut 79 = .ok (.iload 5, 2) := by decide +kernel
theorem dX2_bestCut_81 : decode cX2_bestCut 81 = .ok (.goto 4, 3) := by decide +kernel
theorem dX2_bestCut_84 : decode cX2_bestCut 84 = .ok (.iload_n 2, 1) := by decide +kernel
theorem dX2_bestCut_85 : decode cX2_bestCut 85 = .ok (.istore_n 2, 1) := by decide +kernel
theorem dX2_bestCut_86 : decode cX2_bestCut 86 = .ok (.iinc 3 1, 3) := by decide +kernel
theorem dX2_bestCut_89 : decode cX2_bestCut 89 = .ok (.goto (-78), 3) := by decide +kernel
theorem dX2_bestCut_92 : decode cX2_bestCut 92 = .ok (.iload_n 1, 1) := by decide +kernel
theorem dX2_bestCut_93 : decode cX2_bestCut 93 = .ok (.ireturn, 1) := by decide +kernel
theorem dJ6_bitCount_0f7a4_0 : decode cJ6_bitCount_0f7a4 0 = .ok (.iload_n 0, 1) := by decide +kernel
theorem dJ6_bitCount_0f7a4_1 : decode cJ6_bitCount_0f7a4 1 = .ok (.iload_n 0, 1) := by decide +kernel
theorem dJ6_bitCount_0f7a4_2 : decode cJ6_bitCount_0f7a4 2 = .ok (.iconst 1, 1) := by decide +kernel
theorem dJ6_bitCount_0f7a4_3 : decode cJ6_bitCount_0f7a4 3 = .ok (.iushr, 1) := by decide +kernel
theorem dJ6_bitCount_0f7a4_4 : decode cJ6_bitCount_0f7a4 4 = .ok (.ldc_w 265, 3) := by decide +kernel
theorem dJ6_bitCount_0f7a4_7 : decode cJ6_bitCount_0f7a4 7 = .ok (.iand, 1) := by decide +kernel
theorem dJ6_bitCount_0f7a4_8 : decode cJ6_bitCount_0f7a4 8 = .ok (.isub, 1) := by decide +kernel
theorem dJ6_bitCount_0f7a4_9 : decode cJ6_bitCount_0f7a4 9 = .ok (.istore_n 0, 1) := by decide +kernel
theorem dJ6_bitCount_0f7a4_10 : decode cJ6_bitCount_0f7a4 10 = .ok (.iload_n 0, 1) := by decide +kernel
theorem dJ6_bitCount_0f7a4_11 : decode cJ6_bitCount_0f7a4 11 = .ok (.ldc_w 266, 3) := by decide +kernel
theorem dJ6_bitCount_0f7a4_14 : decode cJ6_bitCount_0f7a4 14 = .ok (.iand, 1) := by decide +kernel
theorem dJ6_bitCount_0f7a4_15 : decode cJ6_bitCount_0f7a4 15 = .ok (.iload_n 0, 1) := by decide +kernel
theorem dJ6_bitCount_0f7a4_16 : decode cJ6_bitCount_0f7a4 16 = .ok (.iconst 2, 1) := by decide +kernel
theorem dJ6_bitCount_0f7a4_17 : decode cJ6_bitCount_0f7a4 17 = .ok (.iushr, 1) := by decide +kernel
theorem dJ6_bitCount_0f7a4_18 : decode cJ6_bitCount_0f7a4 18 = .ok (.ldc_w 266, 3) := by decide +kernel
theorem dJ6_bitCount_0f7a4_21 : decode cJ6_bitCount_0f7a4 21 = .ok (.iand, 1) := by decide +kernel
theorem dJ6_bitCount_0f7a4_22 : decode cJ6_bitCount_0f7a4 22 = .ok (.iadd, 1) := by decide +kernel
theorem dJ6_bitCount_0f7a4_23 : decode cJ6_bitCount_0f7a4 23 = .ok (.istore_n 0, 1) := by decide +kernel
theorem dJ6_bitCount_0f7a4_24 : decode cJ6_bitCount_0f7a4 24 = .ok (.iload_n 0, 1) := by decide +kernel
theorem dJ6_bitCount_0f7a4_25 : decode cJ6_bitCount_0f7a4 25 = .ok (.iload_n 0, 1) := by decide +kernel
theorem dJ6_bitCount_0f7a4_26 : decode cJ6_bitCount_0f7a4 26 = .ok (.iconst 4, 1) := by decide +kernel
theorem dJ6_bitCount_0f7a4_27 : decode cJ6_bitCount_0f7a4 27 = .ok (.iushr, 1) := by decide +kernel
theorem dJ6_bitCount_0f7a4_28 : decode cJ6_bitCount_0f7a4 28 = .ok (.iadd, 1) := by decide +kernel
theorem dJ6_bitCount_0f7a4_29 : decode cJ6_bitCount_0f7a4 29 = .ok (.ldc_w 267, 3) := by decide +kernel
theorem dJ6_bitCount_0f7a4_32 : decode cJ6_bitCount_0f7a4 32 = .ok (.iand, 1) := by decide +kernel
theorem dJ6_bitCount_0f7a4_33 : decode cJ6_bitCount_0f7a4 33 = .ok (.istore_n 0, 1) := by decide +kernel
theorem dJ6_bitCount_0f7a4_34 : decode cJ6_bitCount_0f7a4 34 = .ok (.iload_n 0, 1) := by decide +kernel
theorem dJ6_bitCount_0f7a4_35 : decode cJ6_bitCount_0f7a4 35 = .ok (.iload_n 0, 1) := by decide +kernel
theorem dJ6_bitCount_0f7a4_36 : decode cJ6_bitCount_0f7a4 36 = .ok (.bipush 8, 2) := by decide +kernel
theorem dJ6_bitCount_0f7a4_38 : decode cJ6_bitCount_0f7a4 38 = .ok (.iushr, 1) := by decide +kernel
theorem dJ6_bitCount_0f7a4_39 : decode cJ6_bitCount_0f7a4 39 = .ok (.iadd, 1) := by decide +kernel
theorem dJ6_bitCount_0f7a4_40 : decode cJ6_bitCount_0f7a4 40 = .ok (.istore_n 0, 1) := by decide +kernel
theorem dJ6_bitCount_0f7a4_41 : decode cJ6_bitCount_0f7a4 41 = .ok (.iload_n 0, 1) := by decide +kernel
theorem dJ6_bitCount_0f7a4_42 : decode cJ6_bitCount_0f7a4 42 = .ok (.iload_n 0, 1) := by decide +kernel
theorem dJ6_bitCount_0f7a4_43 : decode cJ6_bitCount_0f7a4 43 = .ok (.bipush 16, 2) := by decide +kernel
theorem dJ6_bitCount_0f7a4_45 : decode cJ6_bitCount_0f7a4 45 = .ok (.iushr, 1) := by decide +kernel
theorem dJ6_bitCount_0f7a4_46 : decode cJ6_bitCount_0f7a4 46 = .ok (.iadd, 1) := by decide +kernel
theorem dJ6_bitCount_0f7a4_47 : decode cJ6_bitCount_0f7a4 47 = .ok (.istore_n 0, 1) := by decide +kernel
theorem dJ6_bitCount_0f7a4_48 : decode cJ6_bitCount_0f7a4 48 = .ok (.iload_n 0, 1) := by decide +kernel
theorem dJ6_bitCount_0f7a4_49 : decode cJ6_bitCount_0f7a4 49 = .ok (.bipush 63, 2) := by decide +kernel
theorem dJ6_bitCount_0f7a4_51 : decode cJ6_bitCount_0f7a4 51 = .ok (.iand, 1) := by decide +kernel
theorem dJ6_bitCount_0f7a4_52 : decode cJ6_bitCount_0f7a4 52 = .ok (.ireturn, 1) := by decide +kernel
set_option maxRecDepth 20000 in
theorem ggL_sides_X1_sides : GoodIn wsL_sides wsX1_sides := goodIn_ca (goodIn_ca (goodIn_r _ [7, 8, 9, 10, 11, 12, 13, 14, 15, 16, 17, 18, 19, 20, 21, 22, 23, 24] (by decide +kernel) (by decide +kernel)) (goodIn_sub (fun _ h => List.mem_cons_of_mem _ (List.mem_append_left _ (List.mem_append_right _ h))) (by decide +kernel))) (goodIn_sub (fun _ h => List.mem_cons_of_mem _ (List.mem_append_right _ h)) (by decide +kernel))
set_option maxRecDepth 20000 in
theorem gL_sides_X1_sides : GoodIn wsL_sides (wsV RL 7 RX1 yX1_sides wsX1_sides) := goodIn_app (goodIn_of _ (by decide +kernel)) ggL_sides_X1_sides
theorem dL_sides_0 : decode cL_sides 0 = .ok (.aload_n 0, 1) := by decide +kernel
theorem dL_sides_1 : decode cL_sides 1 = .ok (.iload_n 1, 1) := by decide +kernel
theorem dL_sides_2 : decode cL_sides 2 = .ok (.invokevirtual 7, 3) := by decide +kernel
theorem dL_sides_5 : decode cL_sides 5 = .ok (.goto 9, 3) := by decide +kernel
theorem dL_sides_8 : decode cL_sides 8 = .ok (.astore_n 2, 1) := by decide +kernel
theorem dL_sides_9 : decode cL_sides 9 = .ok (.iconst 1, 1) := by decide +kernel
theorem dL_sides_10 : decode cL_sides 10 = .ok (.ireturn, 1) := by decide +kernel
theorem dL_sides_11 : decode cL_sides 11 = .ok (.astore_n 2, 1) := by decide +kernel
theorem dL_sides_12 : decode cL_sides 12 = .ok (.iconst 2, 1) := by decide +kernel
theorem dL_sides_13 : decode cL_sides 13 = .ok (.ireturn, 1) := by decide +kernel
theorem dL_sides_14 : decode cL_sides 14 = .ok (.iconst 0, 1) := by decide +kernel
theorem dL_sides_15 : decode cL_sides 15 = .ok (.ireturn, 1) := by decide +kernel
set_option maxRecDepth 20000 in
theorem ggL_plant_X1_plant : GoodIn wsL_plant wsX1_plant := goodIn_ca (goodIn_ca (goodIn_r _ [7, 8, 9, 10, 11, 12, 13, 6, 14, 15, 16, 17, 18, 19, 20, 21, 22, 23, 24, 25, 26, 27, 28, 29, 30, 31, 32, 33, 34, 35, 36, 37, 38, 39, 40, 41, 42, 43, 44, 45, 46, 47, 48, 49, 50, 51, 52, 53, 54] (by decide +kernel) (by decide +kernel)) (goodIn_sub (fun _ h => List.mem_cons_of_mem _ (List.mem_append_left _ (List.mem_append_right _ h))) (by decide +kernel))) (goodIn_sub (fun _ h => List.mem_cons_of_mem _ (List.mem_append_right _ h)) (by decide +kernel))
set_option maxRecDepth 20000 in
theorem gL_plant_X1_plant : GoodIn wsL_plant (wsV RL 17 RX1 yX1_plant wsX1_plant) := goodIn_app (goodIn_of _ (by decide +kernel)) ggL_plant_X1_plant
theorem dL_plant_0 : decode cL_plant 0 = .ok (.aload_n 0, 1) := by decide +kernel
theorem dL_plant_1 : decode cL_plant 1 = .ok (.iload_n 1, 1) := by decide +kernel
theorem dL_plant_2 : decode cL_plant 2 = .ok (.invokevirtual 17, 3) := by decide +kernel
theorem dL_plant_5 : decode cL_plant 5 = .ok (.goto 9, 3) := by decide +kernel
theorem dL_plant_8 : decode cL_plant 8 = .ok (.astore_n 2, 1) := by decide +kernel
theorem dL_plant_9 : decode cL_plant 9 = .ok (.iconst 1, 1) := by decide +kernel
theorem dL_plant_10 : decode cL_plant 10 = .ok (.ireturn, 1) := by decide +kernel
theorem dL_plant_11 : decode cL_plant 11 = .ok (.astore_n 2, 1) := by decide +kernel
theorem dL_plant_12 : decode cL_plant 12 = .ok (.iconst 2, 1) := by decide +kernel
theorem dL_plant_13 : decode cL_plant 13 = .ok (.ireturn, 1) := by decide +kernel
theorem dL_plant_14 : decode cL_plant 14 = .ok (.iconst 0, 1) := by decide +kernel
theorem dL_plant_15 : decode cL_plant 15 = .ok (.ireturn, 1) := by decide +kernel
set_option maxRecDepth 20000 in
theorem ggL_trellis_X1_trellis : GoodIn wsL_trellis wsX1_trellis := goodIn_ca (goodIn_ca (goodIn_r _ [7, 8, 9, 10, 11, 12, 6, 13, 14, 15, 16, 17, 18, 19, 20, 21, 22, 23, 24, 25, 26] (by decide +kernel) (by decide +kernel)) (goodIn_sub (fun _ h => List.mem_cons_of_mem _ (List.mem_append_left _ (List.mem_append_right _ h))) (by decide +kernel))) (goodIn_sub (fun _ h => List.mem_cons_of_mem _ (List.mem_append_right _ h)) (by decide +kernel))
set_option maxRecDepth 20000 in
theorem gL_trellis_X1_trellis : GoodIn wsL_trellis (wsV RL 22 RX1 yX1_trellis wsX1_trellis) := goodIn_app (goodIn_of _ (by decide +kernel)) ggL_trellis_X1_trellis
theorem dL_trellis_0 : decode cL_trellis 0 = .ok (.aload_n 3, 1) := by decide +kernel
theorem dL_trellis_1 : decode cL_trellis 1 = .ok (.iconst 0, 1) := by decide +kernel
theorem dL_trellis_2 : decode cL_trellis 2 = .ok (.aload_n 0, 1) := by decide +kernel
theorem dL_trellis_3 : decode cL_trellis 3 = .ok (.iload_n 1, 1) := by decide +kernel
theorem dL_trellis_4 : decode cL_trellis 4 = .ok (.iload_n 2, 1) := by decide +kernel
theorem dL_trellis_5 : decode cL_trellis 5 = .ok (.invokevirtual 22, 3) := by decide +kernel
theorem dL_trellis_8 : decode cL_trellis 8 = .ok (.i2l, 1) := by decide +kernel
theorem dL_trellis_9 : decode cL_trellis 9 = .ok (.lastore, 1) := by decide +kernel
theorem dL_trellis_10 : decode cL_trellis 10 = .ok (.goto 11, 3) := by decide +kernel
theorem dL_trellis_13 : decode cL_trellis 13 = .ok (.astore 4, 2) := by decide +kernel
theorem dL_trellis_15 : decode cL_trellis 15 = .ok (.iconst 1, 1) := by decide +kernel
theorem dL_trellis_16 : decode cL_trellis 16 = .ok (.ireturn, 1) := by decide +kernel
theorem dL_trellis_17 : decode cL_trellis 17 = .ok (.astore 4, 2) := by decide +kernel
theorem dL_trellis_19 : decode cL_trellis 19 = .ok (.iconst 2, 1) := by decide +kernel
theorem dL_trellis_20 : decode cL_trellis 20 = .ok (.ireturn, 1) := by decide +kernel
theorem dL_trellis_21 : decode cL_trellis 21 = .ok (.iconst 0, 1) := by decide +kernel
theorem dL_trellis_22 : decode cL_trellis 22 = .ok (.ireturn, 1) := by decide +kernel
set_option maxRecDepth 20000 in
theorem ggL_cut_X1_cut : GoodIn wsL_cut wsX1_cut := goodIn_ca (goodIn_ca (goodIn_r _ [7, 8, 9, 10, 11, 12, 13, 6, 14, 15, 16, 17, 18, 19, 20, 21, 22, 23, 24, 25, 26, 27, 28, 29, 30, 31, 32, 33, 34, 35, 36, 37, 38, 39, 40, 41, 42, 43, 44, 45, 46, 47, 48, 49, 50, 51, 52, 53, 54, 55] (by decide +kernel) (by decide +kernel)) (goodIn_sub (fun _ h => List.mem_cons_of_mem _ (List.mem_append_left _ (List.mem_append_right _ h))) (by decide +kernel))) (goodIn_sub (fun _ h => List.mem_cons_of_mem _ (List.mem_append_right _ h)) (by decide +kernel))
set_option maxRecDepth 20000 in
theorem gL_cut_X1_cut : GoodIn wsL_cut (wsV RL 26 RX1 yX1_cut wsX1_cut) := goodIn_app (goodIn_of _ (by decide +kernel)) ggL_cut_X1_cut
theorem dL_cut_0 : decode cL_cut 0 = .ok (.aload_n 3, 1) := by decide +kernel
theorem dL_cut_1 : decode cL_cut 1 = .ok (.iconst 0, 1) := by decide +kernel
theorem dL_cut_2 : decode cL_cut 2 = .ok (.aload_n 0, 1) := by decide +kernel
theorem dL_cut_3 : decode cL_cut 3 = .ok (.iload_n 1, 1) := by decide +kernel
theorem dL_cut_4 : decode cL_cut 4 = .ok (.iload_n 2, 1) := by decide +kernel
theorem dL_cut_5 : decode cL_cut 5 = .ok (.invokevirtual 26, 3) := by decide +kernel
theorem dL_cut_8 : decode cL_cut 8 = .ok (.i2l, 1) := by decide +kernel
theorem dL_cut_9 : decode cL_cut 9 = .ok (.lastore, 1) := by decide +kernel
theorem dL_cut_10 : decode cL_cut 10 = .ok (.goto 11, 3) := by decide +kernel
theorem dL_cut_13 : decode cL_cut 13 = .ok (.astore 4, 2) := by decide +kernel
theorem dL_cut_15 : decode cL_cut 15 = .ok (.iconst 1, 1) := by decide +kernel
theorem dL_cut_16 : decode cL_cut 16 = .ok (.ireturn, 1) := by decide +kernel
theorem dL_cut_17 : decode cL_cut 17 = .ok (.astore 4, 2) := by decide +kernel
theorem dL_cut_19 : decode cL_cut 19 = .ok (.iconst 2, 1) := by decide +kernel
theorem dL_cut_20 : decode cL_cut 20 = .ok (.ireturn, 1) := by decide +kernel
theorem dL_cut_21 : decode cL_cut 21 = .ok (.iconst 0, 1) := by decide +kernel
theorem dL_cut_22 : decode cL_cut 22 = .ok (.ireturn, 1) := by decide +kernel
set_option maxRecDepth 20000 in
theorem ggL_grow_X1_grow : GoodIn wsL_grow wsX1_grow := goodIn_ca (goodIn_r _ [6, 7, 8, 9, 10, 11, 12, 13, 14, 15, 16, 17, 18, 5, 19, 20, 21, 22, 23, 24, 25, 26, 27, 28, 29, 30, 31, 32, 33, 34, 35, 36, 37, 38, 39, 40, 41, 42, 43, 44, 45, 46, 47, 48, 49, 50, 51, 52, 53, 54, 55, 56, 57, 58, 59, 60, 61, 62, 63, 64, 65, 66, 67, 68, 69, 70, 71, 72, 73, 74, 75, 76, 77, 78, 79, 80, 81, 82, 83, 84, 85, 86, 87, 88, 89, 90, 91, 92, 93, 94, 95, 96, 97, 98, 99, 100, 101, 102] (by decide +kernel) (by decide +kernel)) (goodIn_sub (fun _ h => List.mem_cons_of_mem _ (List.mem_append_right _ h)) (by decide +kernel))
set_option maxRecDepth 20000 in
theorem gL_grow_X1_grow : GoodIn wsL_grow (wsV RL 29 RX1 yX1_grow wsX1_grow) := goodIn_app (goodIn_of _ (by decide +kernel)) ggL_grow_X1_grow
theorem dL_grow_0 : decode cL_grow 0 = .ok (.aload_n 1, 1) := by decide +kernel
theorem dL_grow_1 : decode cL_grow 1 = .ok (.iconst 0, 1) := by decide +kernel
theorem dL_grow_2 : decode cL_grow 2 = .ok (.aload_n 0, 1) := by decide +kernel
theorem dL_grow_3 : decode cL_grow 3 = .ok (.invokevirtual 29, 3) := by decide +kernel
theorem dL_grow_6 : decode cL_grow 6 = .ok (.i2l, 1) := by decide +kernel
theorem dL_grow_7 : decode cL_grow 7 = .ok (.lastore, 1) := by decide +kernel
theorem dL_grow_8 : decode cL_grow 8 = .ok (.goto 6, 3) := by decide +kernel
theorem dL_grow_11 : decode cL_grow 11 = .ok (.astore_n 2, 1) := by decide +kernel
theorem dL_grow_12 : decode cL_grow 12 = .ok (.iconst 1, 1) := by decide +kernel
theorem dL_grow_13 : decode cL_grow 13 = .ok (.ireturn, 1) := by decide +kernel
theorem dL_grow_14 : decode cL_grow 14 = .ok (.iconst 0, 1) := by decide +kernel
theorem dL_grow_15 : decode cL_grow 15 = .ok (.ireturn, 1) := by decide +kernel
set_option maxRecDepth 20000 in
theorem ggL_look_X1_look : GoodIn wsL_look wsX1_look := goodIn_ca (goodIn_r _ [6, 7, 8, 9, 5, 10, 11, 12, 13, 14, 15, 16, 17, 18, 19, 20, 21, 22, 23, 24, 25, 26, 27, 28, 29, 30, 31, 32, 33, 34, 35, 36, 37, 38, 39, 40, 41, 42, 43, 44, 45, 46, 47, 48] (by decide +kernel) (by decide +kernel)) (goodIn_sub (fun _ h => List.mem_cons_of_mem _ (List.mem_append_right _ h)) (by decide +kernel))
set_option maxRecDepth 20000 in
theorem gL_look_X1_look : GoodIn wsL_look (wsV RL 33 RX1 yX1_look wsX1_look) := goodIn_app (goodIn_of _ (by decide +kernel)) ggL_look_X1_look
theorem dL_look_0 : decode cL_look 0 = .ok (.aload_n 3, 1) := by decide +kernel
theorem dL_look_1 : decode cL_look 1 = .ok (.iconst 0, 1) := by decide +kernel
theorem dL_look_2 : decode cL_look 2 = .ok (.aload_n 0, 1) := by decide +kernel
theorem dL_look_3 : decode cL_look 3 = .ok (.iload_n 1, 1) := by decide +kernel
theorem dL_look_4 : decode cL_look 4 = .ok (.iload_n 2, 1) := by decide +kernel
theorem dL_look_5 : decode cL_look 5 = .ok (.invokevirtual 33, 3) := by decide +kernel
theorem dL_look_8 : decode cL_look 8 = .ok (.i2l, 1) := by decide +kernel
theorem dL_look_9 : decode cL_look 9 = .ok (.lastore, 1) := by decide +kernel
theorem dL_look_10 : decode cL_look 10 = .ok (.goto 7, 3) := by decide +kernel
theorem dL_look_13 : decode cL_look 13 = .ok (.astore 4, 2) := by decide +kernel
theorem dL_look_15 : decode cL_look 15 = .ok (.iconst 1, 1) := by decide +kernel
theorem dL_look_16 : decode cL_look 16 = .ok (.ireturn, 1) := by decide +kernel
theorem dL_look_17 : decode cL_look 17 = .ok (.iconst 0, 1) := by decide +kernel
theorem dL_look_18 : decode cL_look 18 = .ok (.ireturn, 1) := by decide +kernel
set_option maxRecDepth 20000 in
theorem ggL_shadeOf_X1_shadeOf : GoodIn wsL_shadeOf wsX1_shadeOf := goodIn_ca (goodIn_r _ [6, 7, 8, 9, 5, 10, 11, 12, 13, 14, 15, 16, 17, 18, 19, 20, 21, 22, 23, 24, 25, 26, 27, 28, 29, 30, 31, 32, 33, 34, 35, 36, 37, 38] (by decide +kernel) (by decide +kernel)) (goodIn_sub (fun _ h => List.mem_cons_of_mem _ (List.mem_append_right _ h)) (by decide +kernel))
set_option maxRecDepth 20000 in
theorem gL_shadeOf_X1_shadeOf : GoodIn wsL_shadeOf (wsV RL 37 RX1 yX1_shadeOf wsX1_shadeOf) := goodIn_app (goodIn_of _ (by decide +kernel)) ggL_shadeOf_X1_shadeOf
theorem dL_shadeOf_0 : decode cL_shadeOf 0 = .ok (.aload_n 3, 1) := by decide +kernel
theorem dL_shadeOf_1 : decode cL_shadeOf 1 = .ok (.iconst 0, 1) := by decide +kernel
theorem dL_shadeOf_2 : decode cL_shadeOf 2 = .ok (.aload_n 0, 1) := by decide +kernel
theorem dL_shadeOf_3 : decode cL_shadeOf 3 = .ok (.iload_n 1, 1) := by decide +kernel
theorem dL_shadeOf_4 : decode cL_shadeOf 4 = .ok (.iload_n 2, 1) := by decide +kernel
theorem dL_shadeOf_5 : decode cL_shadeOf 5 = .ok (.invokevirtual 37, 3) := by decide +kernel
theorem dL_shadeOf_8 : decode cL_shadeOf 8 = .ok (.i2l, 1) := by decide +kernel
theorem dL_shadeOf_9 : decode cL_shadeOf 9 = .ok (.lastore, 1) := by decide +kernel
theorem dL_shadeOf_10 : decode cL_shadeOf 10 = .ok (.goto 7, 3) := by decide +kernel
theorem dL_shadeOf_13 : decode cL_shadeOf 13 = .ok (.astore 4, 2) := by decide +kernel
theorem dL_shadeOf_15 : decode cL_shadeOf 15 = .ok (.iconst 1, 1) := by decide +kernel
theorem dL_shadeOf_16 : decode cL_shadeOf 16 = .ok (.ireturn, 1) := by decide +kernel
theorem dL_shadeOf_17 : decode cL_shadeOf 17 = .ok (.iconst 0, 1) := by decide +kernel
theorem dL_shadeOf_18 : decode cL_shadeOf 18 = .ok (.ireturn, 1) := by decide +kernel
set_option maxRecDepth 20000 in
theorem ggL_holdersOf_X1_holdersOf : GoodIn wsL_holdersOf wsX1_holdersOf := goodIn_ca (goodIn_r _ [6, 7, 8, 9, 10, 5, 11, 12, 13, 14, 15, 16, 17, 18, 19, 20, 21, 22, 23, 24, 25, 26, 27, 28, 29, 30, 31, 32, 33, 34, 35, 36, 37, 38, 39, 40, 41, 42, 43, 44, 45, 46, 47, 48, 49, 50, 51, 52, 53] (by decide +kernel) (by decide +kernel)) (goodIn_sub (fun _ h => List.mem_cons_of_mem _ (List.mem_append_right _ h)) (by decide +kernel))
set_option maxRecDepth 20000 in
theorem gL_holdersOf_X1_holdersOf : GoodIn wsL_holdersOf (wsV RL 40 RX1 yX1_holdersOf wsX1_holdersOf) := goodIn_app (goodIn_of _ (by decide +kernel)) ggL_holdersOf_X1_holdersOf
theorem dL_holdersOf_0 : decode cL_holdersOf 0 = .ok (.aload_n 3, 1) := by decide +kernel
theorem dL_holdersOf_1 : decode cL_holdersOf 1 = .ok (.iconst 0, 1) := by decide +kernel
theorem dL_holdersOf_2 : decode cL_holdersOf 2 = .ok (.aload_n 0, 1) := by decide +kernel
theorem dL_holdersOf_3 : decode cL_holdersOf 3 = .ok (.iload_n 1, 1) := by decide +kernel
theorem dL_holdersOf_4 : decode cL_holdersOf 4 = .ok (.iload_n 2, 1) := by decide +kernel
theorem dL_holdersOf_5 : decode cL_holdersOf 5 = .ok (.invokevirtual 40, 3) := by decide +kernel
theorem dL_holdersOf_8 : decode cL_holdersOf 8 = .ok (.i2l, 1) := by decide +kernel
theorem dL_holdersOf_9 : decode cL_holdersOf 9 = .ok (.lastore, 1) := by decide +kernel
theorem dL_holdersOf_10 : decode cL_holdersOf 10 = .ok (.goto 7, 3) := by decide +kernel
theorem dL_holdersOf_13 : decode cL_holdersOf 13 = .ok (.astore 4, 2) := by decide +kernel
theorem dL_holdersOf_15 : decode cL_holdersOf 15 = .ok (.iconst 1, 1) := by decide +kernel
theorem dL_holdersOf_16 : decode cL_holdersOf 16 = .ok (.ireturn, 1) := by decide +kernel
theorem dL_holdersOf_17 : decode cL_holdersOf 17 = .ok (.iconst 0, 1) := by decide +kernel
theorem dL_holdersOf_18 : decode cL_holdersOf 18 = .ok (.ireturn, 1) := by decide +kernel
set_option maxRecDepth 20000 in
theorem ggL_neighboursOf_X1_neighboursOf : GoodIn wsL_neighboursOf wsX1_neighboursOf := goodIn_ca (goodIn_r _ [6, 7, 8, 9, 10, 5, 11, 12, 13, 14, 15, 16, 17, 18, 19, 20, 21, 22, 23, 24, 25, 26, 27, 28, 29, 30, 31, 32, 33, 34, 35, 36, 37, 38, 39, 40, 41, 42, 43, 44, 45, 46, 47, 48, 49, 50, 51, 52, 53] (by decide +kernel) (by decide +kernel)) (goodIn_sub (fun _ h => List.mem_cons_of_mem _ (List.mem_append_right _ h)) (by decide +kernel))
set_option maxRecDepth 20000 in
theorem gL_neighboursOf_X1_neighboursOf : GoodIn wsL_neighboursOf (wsV RL 43 RX1 yX1_neighboursOf wsX1_neighboursOf) := goodIn_app (goodIn_of _ (by decide +kernel)) ggL_neighboursOf_X1_neighboursOf
theorem dL_neighboursOf_0 : decode cL_neighboursOf 0 = .ok (.aload_n 3, 1) := by decide +kernel
theorem dL_neighboursOf_1 : decode cL_neighboursOf 1 = .ok (.iconst 0, 1) := by decide +kernel
theorem dL_neighboursOf_2 : decode cL_neighboursOf 2 = .ok (.aload_n 0, 1) := by decide +kernel
theorem dL_neighboursOf_3 : decode cL_neighboursOf 3 = .ok (.iload_n 1, 1) := by decide +kernel
theorem dL_neighboursOf_4 : decode cL_neighboursOf 4 = .ok (.iload_n 2, 1) := by decide +kernel
theorem dL_neighboursOf_5 : decode cL_neighboursOf 5 = .ok (.invokevirtual 43, 3) := by decide +kernel
theorem dL_neighboursOf_8 : decode cL_neighboursOf 8 = .ok (.i2l, 1) := by decide +kernel
theorem dL_neighboursOf_9 : decode cL_neighboursOf 9 = .ok (.lastore, 1) := by decide +kernel
theorem dL_neighboursOf_10 : decode cL_neighboursOf 10 = .ok (.goto 7, 3) := by decide +kernel
theorem dL_neighboursOf_13 : decode cL_neighboursOf 13 = .ok (.astore 4, 2) := by decide +kernel
theorem dL_neighboursOf_15 : decode cL_neighboursOf 15 = .ok (.iconst 1, 1) := by decide +kernel
theorem dL_neighboursOf_16 : decode cL_neighboursOf 16 = .ok (.ireturn, 1) := by decide +kernel
theorem dL_neighboursOf_17 : decode cL_neighboursOf 17 = .ok (.iconst 0, 1) := by decide +kernel
theorem dL_neighboursOf_18 : decode cL_neighboursOf 18 = .ok (.ireturn, 1) := by decide +kernel
set_option maxRecDepth 20000 in
theorem ggL_leavesIn_X1_leavesIn : GoodIn wsL_leavesIn wsX1_leavesIn := goodIn_ca (goodIn_r _ [6, 7, 8, 9, 5, 10, 11, 12, 13, 14, 15, 16, 17, 18, 19, 20, 21, 22, 23, 24, 25, 26, 27, 28, 29, 30, 31, 32, 33, 34, 35, 36, 37, 38, 39] (by decide +kernel) (by decide +kernel)) (goodIn_sub (fun _ h => List.mem_cons_of_mem _ (List.mem_append_right _ h)) (by decide +kernel))
set_option maxRecDepth 20000 in
theorem gL_leavesIn_X1_leavesIn : GoodIn wsL_leavesIn (wsV RL 46 RX1 yX1_leavesIn wsX1_leavesIn) := goodIn_app (goodIn_of _ (by decide +kernel)) ggL_leavesIn_X1_leavesIn
theorem dL_leavesIn_0 : decode cL_leavesIn 0 = .ok (.aload_n 2, 1) := by decide +kernel
theorem dL_leavesIn_1 : decode cL_leavesIn 1 = .ok (.iconst 0, 1) := by decide +kernel
theorem dL_leavesIn_2 : decode cL_leavesIn 2 = .ok (.aload_n 0, 1) := by decide +kernel
theorem dL_leavesIn_3 : decode cL_leavesIn 3 = .ok (.iload_n 1, 1) := by decide +kernel
theorem dL_leavesIn_4 : decode cL_leavesIn 4 = .ok (.invokevirtual 46, 3) := by decide +kernel
theorem dL_leavesIn_7 : decode cL_leavesIn 7 = .ok (.i2l, 1) := by decide +kernel
theorem dL_leavesIn_8 : decode cL_leavesIn 8 = .ok (.lastore, 1) := by decide +kernel
theorem dL_leavesIn_9 : decode cL_leavesIn 9 = .ok (.goto 6, 3) := by decide +kernel
theorem dL_leavesIn_12 : decode cL_leavesIn 12 = .ok (.astore_n 3, 1) := by decide +kernel
theorem dL_leavesIn_13 : decode cL_leavesIn 13 = .ok (.iconst 1, 1) := by decide +kernel
theorem dL_leavesIn_14 : decode cL_leavesIn 14 = .ok (.ireturn, 1) := by decide +kernel
theorem dL_leavesIn_15 : decode cL_leavesIn 15 = .ok (.iconst 0, 1) := by decide +kernel
theorem dL_leavesIn_16 : decode cL_leavesIn 16 = .ok (.ireturn, 1) := by decide +kernel
set_option maxRecDepth 20000 in
theorem ggL_law_X1_init : GoodIn wsL_law wsX1_init := goodIn_r _ [9, 10, 11, 12, 13, 14, 15, 16, 17, 18, 6, 19, 20, 21, 22, 23, 24, 25, 26, 27, 28, 29, 30, 31, 32, 445, 446, 426, 427, 428, 429, 430, 431, 432, 433, 434, 435, 436] (by decide +kernel) (by decide +kernel)
set_option maxRecDepth 20000 in
theorem gL_law_X1_init : GoodIn wsL_law (wsX1_init) := ggL_law_X1_init
set_option maxRecDepth 20000 in
theorem ggL_law_X2_init : GoodIn wsL_law wsX2_init := goodIn_r _ [35, 36, 11, 12, 21, 37, 38, 39, 437, 438, 439, 440, 441, 442, 443, 444] (by decide +kernel) (by decide +kernel)
set_option maxRecDepth 20000 in
theorem gL_law_X2_init : GoodIn wsL_law (wsX2_init) := ggL_law_X2_init
set_option maxRecDepth 20000 in
theorem ggL_law_L_sides : GoodIn wsL_law wsL_sides := goodIn_ca (goodIn_ca (goodIn_r _ [43, 44, 45, 46, 47, 48, 2, 49, 50, 51, 52, 53, 26, 23, 426, 427, 428, 429, 430, 431, 432, 433, 434, 435, 436] (by decide +kernel) (by decide +kernel)) (goodIn_sub (fun _ h => List.mem_append_left _ (List.mem_append_left _ (List.mem_append_right _ h))) (by decide +kernel))) (goodIn_sub (fun _ h => List.mem_append_left _ (List.mem_append_right _ h)) (by decide +kernel))
set_option maxRecDepth 20000 in
theorem gL_law_L_sides : GoodIn wsL_law (va_wsS RL 54 yL_sides wsL_sides) := goodIn_app (goodIn_of _ (by decide +kernel)) ggL_law_L_sides
set_option maxRecDepth 20000 in
theorem ggL_law_X2_sides : GoodIn wsL_law wsX2_sides := goodIn_r _ [57, 58, 59, 60, 437, 438, 439, 440, 441, 442, 443, 444] (by decide +kernel) (by decide +kernel)
set_option maxRecDepth 20000 in
theorem gL_law_X2_sides : GoodIn wsL_law (wsV RL 59 RX2 yX2_sides wsX2_sides) := goodIn_app (goodIn_of _ (by decide +kernel)) ggL_law_X2_sides
set_option maxRecDepth 20000 in
theorem ggL_law_X2_thrown : GoodIn wsL_law wsX2_thrown := goodIn_r _ [64, 59, 437, 438, 439, 440, 441, 442, 443, 444] (by decide +kernel) (by decide +kernel)
set_option maxRecDepth 20000 in
theorem gL_law_X2_thrown : GoodIn wsL_law (wsV RL 60 RX2 yX2_thrown wsX2_thrown) := goodIn_app (goodIn_of _ (by decide +kernel)) ggL_law_X2_thrown
set_option maxRecDepth 20000 in
theorem ggL_law_L_plant : GoodIn wsL_law wsL_plant := goodIn_ca (goodIn_ca (goodIn_r _ [67, 68, 45, 69, 70, 71, 2, 72, 52, 53, 16, 24, 73, 74, 75, 76, 77, 78, 79, 80, 15, 81, 82, 83, 84, 85, 86, 87, 88, 89, 31, 90, 91, 92, 93, 32, 94, 95, 96, 97, 98, 99, 426, 427, 428, 429, 430, 431, 432, 433, 434, 435, 436, 445, 446] (by decide +kernel) (by decide +kernel)) (goodIn_sub (fun _ h => List.mem_append_left _ (List.mem_append_right _ h)) (by decide +kernel))) (goodIn_sub (fun _ h => List.mem_append_right _ h) (by decide +kernel))
set_option maxRecDepth 20000 in
theorem gL_law_L_plant : GoodIn wsL_law (va_wsS RL 63 yL_plant wsL_plant) := goodIn_app (goodIn_of _ (by decide +kernel)) ggL_law_L_plant
set_option maxRecDepth 20000 in
theorem ggL_law_X2_plant : GoodIn wsL_law wsX2_plant := goodIn_r _ [103, 37, 104, 59, 105, 106, 5, 107, 437, 438, 439, 440, 441, 442, 443, 444] (by decide +kernel) (by decide +kernel)
set_option maxRecDepth 20000 in
theorem gL_law_X2_plant : GoodIn wsL_law (wsV RL 65 RX2 yX2_plant wsX2_plant) := goodIn_app (goodIn_of _ (by decide +kernel)) ggL_law_X2_plant
set_option maxRecDepth 20000 in
theorem ggL_law_L_trellis : GoodIn wsL_law wsL_trellis := goodIn_ca (goodIn_ca (goodIn_r _ [110, 68, 44, 111, 112, 113, 2, 114, 50, 51, 22, 73, 74, 75, 76, 77, 426, 427, 428, 429, 430, 431, 432, 433, 434, 435, 436] (by decide +kernel) (by decide +kernel)) (goodIn_sub (fun _ h => List.mem_append_left _ (List.mem_append_left _ (List.mem_append_right _ h))) (by decide +kernel))) (goodIn_sub (fun _ h => List.mem_append_right _ h) (by decide +kernel))
set_option maxRecDepth 20000 in
theorem gL_law_L_trellis : GoodIn wsL_law (va_wsS RL 66 yL_trellis wsL_trellis) := goodIn_app (goodIn_of _ (by decide +kernel)) ggL_law_L_trellis
set_option maxRecDepth 20000 in
theorem ggL_law_X2_trellis : GoodIn wsL_law wsX2_trellis := goodIn_r _ [118, 59, 38, 105, 106, 5, 107, 437, 438, 439, 440, 441, 442, 443, 444] (by decide +kernel) (by decide +kernel)
set_option maxRecDepth 20000 in
theorem gL_law_X2_trellis : GoodIn wsL_law (wsV RL 69 RX2 yX2_trellis wsX2_trellis) := goodIn_app (goodIn_of _ (by decide +kernel)) ggL_law_X2_trellis
set_option maxRecDepth 20000 in
theorem ggL_law_L_cut : GoodIn wsL_law wsL_cut := goodIn_ca (goodIn_ca (goodIn_r _ [121, 68, 45, 122, 123, 124, 2, 125, 52, 53, 16, 25, 126, 127, 128, 76, 77, 129, 98, 99, 130, 83, 84, 15, 85, 86, 87, 88, 89, 31, 131, 132, 133, 134, 135, 136, 137, 138, 32, 139, 140, 141, 142, 426, 427, 428, 429, 430, 431, 432, 433, 434, 435, 436, 445, 446] (by decide +kernel) (by decide +kernel)) (goodIn_sub (fun _ h => List.mem_append_left _ (List.mem_append_right _ h)) (by decide +kernel))) (goodIn_sub (fun _ h => List.mem_append_right _ h) (by decide +kernel))
set_option maxRecDepth 20000 in
theorem gL_law_L_cut : GoodIn wsL_law (va_wsS RL 70 yL_cut wsL_cut) := goodIn_app (goodIn_of _ (by decide +kernel)) ggL_law_L_cut
set_option maxRecDepth 20000 in
theorem ggL_law_X2_cut : GoodIn wsL_law wsX2_cut := goodIn_r _ [146, 37, 39, 59, 147, 148, 5, 149, 105, 106, 107, 437, 438, 439, 440, 441, 442, 443, 444] (by decide +kernel) (by decide +kernel)
set_option maxRecDepth 20000 in
theorem gL_law_X2_cut : GoodIn wsL_law (wsV RL 72 RX2 yX2_cut wsX2_cut) := goodIn_app (goodIn_of _ (by decide +kernel)) ggL_law_X2_cut
set_option maxRecDepth 20000 in
theorem ggL_law_L_grow : GoodIn wsL_law wsL_grow := goodIn_ca (goodIn_r _ [152, 45, 153, 154, 155, 2, 156, 52, 53, 26, 27, 18, 16, 23, 22, 25, 157, 158, 159, 160, 161, 162, 163, 15, 164, 31, 165, 166, 167, 168, 169, 170, 171, 172, 173, 174, 175, 32, 176, 177, 178, 179, 86, 87, 88, 89, 180, 181, 182, 183, 184, 185, 186, 187, 188, 189, 190, 191, 192, 193, 90, 91, 92, 93, 194, 195, 196, 197, 82, 83, 84, 85, 198, 199, 200, 201, 202, 203, 204, 205, 139, 140, 141, 142, 98, 99, 206, 207, 208, 209, 426, 427, 428, 429, 430, 431, 432, 433, 434, 435, 436, 445, 446] (by decide +kernel) (by decide +kernel)) (goodIn_sub (fun _ h => List.mem_append_left _ (List.mem_append_right _ h)) (by decide +kernel))
set_option maxRecDepth 20000 in
theorem gL_law_L_grow : GoodIn wsL_law (va_wsS RL 73 yL_grow wsL_grow) := goodIn_app (goodIn_of _ (by decide +kernel)) ggL_law_L_grow
set_option maxRecDepth 20000 in
theorem ggL_law_X2_grow : GoodIn wsL_law wsX2_grow := goodIn_r _ [213, 58, 59, 214, 39, 215, 216, 217, 5, 218, 219, 220, 221, 222, 223, 224, 225, 226, 60, 37, 105, 106, 107, 227, 228, 229, 230, 231, 232, 233, 234, 235, 236, 237, 238, 239, 240, 241, 242, 243, 244, 245, 246, 247, 248, 249, 250, 251, 252, 253, 254, 38, 255, 256, 257, 258, 437, 438, 439, 440, 441, 442, 443, 444] (by decide +kernel) (by decide +kernel)
set_option maxRecDepth 20000 in
theorem gL_law_X2_grow : GoodIn wsL_law (wsV RL 76 RX2 yX2_grow wsX2_grow) := goodIn_app (goodIn_of _ (by decide +kernel)) ggL_law_X2_grow
set_option maxRecDepth 20000 in
theorem ggL_law_L_look : GoodIn wsL_law wsL_look := goodIn_ca (goodIn_r _ [261, 68, 262, 263, 264, 2, 265, 16, 126, 127, 128, 76, 77, 129, 98, 99, 130, 83, 84, 15, 85, 86, 87, 88, 89, 31, 78, 79, 80, 81, 82, 90, 91, 92, 93, 32, 426, 427, 428, 429, 430, 431, 432, 433, 434, 435, 436, 445, 446] (by decide +kernel) (by decide +kernel)) (goodIn_sub (fun _ h => List.mem_append_right _ h) (by decide +kernel))
set_option maxRecDepth 20000 in
theorem gL_law_L_look : GoodIn wsL_law (va_wsS RL 77 yL_look wsL_look) := goodIn_app (goodIn_of _ (by decide +kernel)) ggL_law_L_look
set_option maxRecDepth 20000 in
theorem ggL_law_X2_look : GoodIn wsL_law wsX2_look := goodIn_r _ [269, 59, 37, 147, 148, 5, 149, 105, 106, 107, 437, 438, 439, 440, 441, 442, 443, 444] (by decide +kernel) (by decide +kernel)
set_option maxRecDepth 20000 in
theorem gL_law_X2_look : GoodIn wsL_law (wsV RL 79 RX2 yX2_look wsX2_look) := goodIn_app (goodIn_of _ (by decide +kernel)) ggL_law_X2_look
set_option maxRecDepth 20000 in
theorem ggL_law_L_shadeOf : GoodIn wsL_law wsL_shadeOf := goodIn_ca (goodIn_r _ [272, 68, 273, 274, 275, 2, 276, 16, 126, 127, 128, 76, 77, 129, 98, 99, 277, 195, 196, 15, 197, 86, 87, 88, 89, 31, 426, 427, 428, 429, 430, 431, 432, 433, 434, 435, 436, 445, 446] (by decide +kernel) (by decide +kernel)) (goodIn_sub (fun _ h => List.mem_append_right _ h) (by decide +kernel))
set_option maxRecDepth 20000 in
theorem gL_law_L_shadeOf : GoodIn wsL_law (va_wsS RL 80 yL_shadeOf wsL_shadeOf) := goodIn_app (goodIn_of _ (by decide +kernel)) ggL_law_L_shadeOf
set_option maxRecDepth 20000 in
theorem ggL_law_X2_shadeOf : GoodIn wsL_law wsX2_shadeOf := goodIn_r _ [281, 59, 147, 148, 5, 149, 105, 106, 107, 227, 228, 229, 230, 223, 224, 225, 226, 60, 37, 437, 438, 439, 440, 441, 442, 443, 444] (by decide +kernel) (by decide +kernel)
set_option maxRecDepth 20000 in
theorem gL_law_X2_shadeOf : GoodIn wsL_law (wsV RL 82 RX2 yX2_shadeOf wsX2_shadeOf) := goodIn_app (goodIn_of _ (by decide +kernel)) ggL_law_X2_shadeOf
set_option maxRecDepth 20000 in
theorem ggL_law_L_holdersOf : GoodIn wsL_law wsL_holdersOf := goodIn_ca (goodIn_r _ [284, 68, 285, 286, 287, 2, 288, 16, 23, 126, 127, 128, 76, 77, 129, 98, 99, 289, 290, 291, 15, 292, 180, 181, 182, 183, 86, 87, 88, 89, 31, 184, 185, 186, 165, 166, 167, 168, 169, 170, 171, 426, 427, 428, 429, 430, 431, 432, 433, 434, 435, 436, 445, 446] (by decide +kernel) (by decide +kernel)) (goodIn_sub (fun _ h => List.mem_append_right _ h) (by decide +kernel))
set_option maxRecDepth 20000 in
theorem gL_law_L_holdersOf : GoodIn wsL_law (va_wsS RL 83 yL_holdersOf wsL_holdersOf) := goodIn_app (goodIn_of _ (by decide +kernel)) ggL_law_L_holdersOf
set_option maxRecDepth 20000 in
theorem ggL_law_X2_holdersOf : GoodIn wsL_law wsX2_holdersOf := goodIn_r _ [296, 59, 147, 148, 5, 149, 105, 106, 107, 239, 240, 241, 242, 243, 244, 245, 246, 223, 224, 225, 226, 60, 37, 437, 438, 439, 440, 441, 442, 443, 444] (by decide +kernel) (by decide +kernel)
set_option maxRecDepth 20000 in
theorem gL_law_X2_holdersOf : GoodIn wsL_law (wsV RL 85 RX2 yX2_holdersOf wsX2_holdersOf) := goodIn_app (goodIn_of _ (by decide +kernel)) ggL_law_X2_holdersOf
set_option maxRecDepth 20000 in
theorem ggL_law_L_neighboursOf : GoodIn wsL_law wsL_neighboursOf := goodIn_ca (goodIn_r _ [299, 68, 300, 301, 302, 2, 303, 16, 23, 126, 127, 128, 76, 77, 129, 98, 99, 304, 305, 306, 15, 307, 180, 181, 182, 183, 86, 87, 88, 89, 31, 187, 188, 189, 165, 166, 167, 168, 169, 170, 171, 426, 427, 428, 429, 430, 431, 432, 433, 434, 435, 436, 445, 446] (by decide +kernel) (by decide +kernel)) (goodIn_sub (fun _ h => List.mem_append_right _ h) (by decide +kernel))
set_option maxRecDepth 20000 in
theorem gL_law_L_neighboursOf : GoodIn wsL_law (va_wsS RL 86 yL_neighboursOf wsL_neighboursOf) := goodIn_app (goodIn_of _ (by decide +kernel)) ggL_law_L_neighboursOf
set_option maxRecDepth 20000 in
theorem ggL_law_X2_neighboursOf : GoodIn wsL_law wsX2_neighboursOf := goodIn_r _ [311, 59, 147, 148, 5, 149, 105, 106, 107, 247, 248, 249, 250, 243, 244, 245, 246, 223, 224, 225, 226, 60, 37, 437, 438, 439, 440, 441, 442, 443, 444] (by decide +kernel) (by decide +kernel)
set_option maxRecDepth 20000 in
theorem gL_law_X2_neighboursOf : GoodIn wsL_law (wsV RL 88 RX2 yX2_neighboursOf wsX2_neighboursOf) := goodIn_app (goodIn_of _ (by decide +kernel)) ggL_law_X2_neighboursOf
set_option maxRecDepth 20000 in
theorem ggL_law_L_leavesIn : GoodIn wsL_law wsL_leavesIn := goodIn_ca (goodIn_r _ [314, 68, 315, 316, 317, 2, 318, 16, 73, 74, 75, 76, 77, 319, 199, 200, 15, 201, 194, 195, 196, 197, 86, 87, 88, 89, 31, 426, 427, 428, 429, 430, 431, 432, 433, 434, 435, 436, 445, 446] (by decide +kernel) (by decide +kernel)) (goodIn_sub (fun _ h => List.mem_append_right _ h) (by decide +kernel))
set_option maxRecDepth 20000 in
theorem gL_law_L_leavesIn : GoodIn wsL_law (va_wsS RL 89 yL_leavesIn wsL_leavesIn) := goodIn_app (goodIn_of _ (by decide +kernel)) ggL_law_L_leavesIn
set_option maxRecDepth 20000 in
theorem ggL_law_X2_leavesIn : GoodIn wsL_law wsX2_leavesIn := goodIn_r _ [323, 59, 105, 106, 5, 107, 219, 220, 221, 222, 223, 224, 225, 226, 60, 37, 227, 228, 229, 230, 437, 438, 439, 440, 441, 442, 443, 444] (by decide +kernel) (by decide +kernel)
set_option maxRecDepth 20000 in
theorem gL_law_X2_leavesIn : GoodIn wsL_law (wsV RL 92 RX2 yX2_leavesIn wsX2_leavesIn) := goodIn_app (goodIn_of _ (by decide +kernel)) ggL_law_X2_leavesIn
set_option maxRecDepth 20000 in
theorem ggL_law_X1_leaves : GoodIn wsL_law wsX1_leaves := goodIn_r _ [160, 16, 161, 162, 163, 15, 164, 31, 165, 166, 167, 168, 169, 170, 171, 426, 427, 428, 429, 430, 431, 432, 433, 434, 435, 436, 445, 446] (by decide +kernel) (by decide +kernel)
set_option maxRecDepth 20000 in
theorem gL_law_X1_leaves : GoodIn wsL_law (wsV RL 93 RX1 yX1_leaves wsX1_leaves) := goodIn_app (goodIn_of _ (by decide +kernel)) ggL_law_X1_leaves
set_option maxRecDepth 20000 in
theorem ggL_law_X2_leaves : GoodIn wsL_law wsX2_leaves := goodIn_r _ [328, 59, 215, 216, 217, 5, 218, 219, 220, 221, 222, 223, 224, 225, 226, 60, 37, 105, 106, 107, 227, 228, 229, 230, 437, 438, 439, 440, 441, 442, 443, 444] (by decide +kernel) (by decide +kernel)
set_option maxRecDepth 20000 in
theorem gL_law_X2_leaves : GoodIn wsL_law (wsV RL 96 RX2 yX2_leaves wsX2_leaves) := goodIn_app (goodIn_of _ (by decide +kernel)) ggL_law_X2_leaves
set_option maxRecDepth 20000 in
theorem ggL_law_X1_lit : GoodIn wsL_law wsX1_lit := goodIn_r _ [332, 16, 333, 334, 335, 15, 336, 31, 165, 166, 167, 168, 169, 170, 171, 426, 427, 428, 429, 430, 431, 432, 433, 434, 435, 436, 445, 446] (by decide +kernel) (by decide +kernel)
set_option maxRecDepth 20000 in
theorem gL_law_X1_lit : GoodIn wsL_law (wsV RL 97 RX1 yX1_lit wsX1_lit) := goodIn_app (goodIn_of _ (by decide +kernel)) ggL_law_X1_lit
set_option maxRecDepth 20000 in
theorem ggL_law_X2_lit : GoodIn wsL_law wsX2_lit := goodIn_r _ [340, 59, 341, 342, 343, 5, 344, 219, 220, 221, 222, 223, 224, 225, 226, 60, 37, 105, 106, 107, 227, 228, 229, 230, 437, 438, 439, 440, 441, 442, 443, 444] (by decide +kernel) (by decide +kernel)
set_option maxRecDepth 20000 in
theorem gL_law_X2_lit : GoodIn wsL_law (wsV RL 100 RX2 yX2_lit wsX2_lit) := goodIn_app (goodIn_of _ (by decide +kernel)) ggL_law_X2_lit
set_option maxRecDepth 20000 in
theorem ggL_law_X1_generation : GoodIn wsL_law wsX1_generation := goodIn_r _ [348, 26, 426, 427, 428, 429, 430, 431, 432, 433, 434, 435, 436] (by decide +kernel) (by decide +kernel)
set_option maxRecDepth 20000 in
theorem gL_law_X1_generation : GoodIn wsL_law (wsV RL 101 RX1 yX1_generation wsX1_generation) := goodIn_app (goodIn_of _ (by decide +kernel)) ggL_law_X1_generation
set_option maxRecDepth 20000 in
theorem ggL_law_X2_generation : GoodIn wsL_law wsX2_generation := goodIn_r _ [352, 59, 58, 437, 438, 439, 440, 441, 442, 443, 444] (by decide +kernel) (by decide +kernel)
set_option maxRecDepth 20000 in
theorem gL_law_X2_generation : GoodIn wsL_law (wsV RL 104 RX2 yX2_generation wsX2_generation) := goodIn_app (goodIn_of _ (by decide +kernel)) ggL_law_X2_generation
set_option maxRecDepth 20000 in
theorem ggL_law_X1_cutsLeft : GoodIn wsL_law wsX1_cutsLeft := goodIn_r _ [134, 25, 426, 427, 428, 429, 430, 431, 432, 433, 434, 435, 436] (by decide +kernel) (by decide +kernel)
set_option maxRecDepth 20000 in
theorem gL_law_X1_cutsLeft : GoodIn wsL_law (wsV RL 105 RX1 yX1_cutsLeft wsX1_cutsLeft) := goodIn_app (goodIn_of _ (by decide +kernel)) ggL_law_X1_cutsLeft
set_option maxRecDepth 20000 in
theorem ggL_law_X2_cutsLeft : GoodIn wsL_law wsX2_cutsLeft := goodIn_r _ [357, 59, 39, 437, 438, 439, 440, 441, 442, 443, 444] (by decide +kernel) (by decide +kernel)
set_option maxRecDepth 20000 in
theorem gL_law_X2_cutsLeft : GoodIn wsL_law (wsV RL 108 RX2 yX2_cutsLeft wsX2_cutsLeft) := goodIn_app (goodIn_of _ (by decide +kernel)) ggL_law_X2_cutsLeft
set_option maxRecDepth 20000 in
theorem ggL_law_X1_broken : GoodIn wsL_law wsX1_broken := goodIn_r _ [361, 27, 426, 427, 428, 429, 430, 431, 432, 433, 434, 435, 436] (by decide +kernel) (by decide +kernel)
set_option maxRecDepth 20000 in
theorem gL_law_X1_broken : GoodIn wsL_law (wsV RL 109 RX1 yX1_broken wsX1_broken) := goodIn_app (goodIn_of _ (by decide +kernel)) ggL_law_X1_broken
set_option maxRecDepth 20000 in
theorem ggL_law_X2_broken : GoodIn wsL_law wsX2_broken := goodIn_r _ [365, 59, 214, 437, 438, 439, 440, 441, 442, 443, 444] (by decide +kernel) (by decide +kernel)
set_option maxRecDepth 20000 in
theorem gL_law_X2_broken : GoodIn wsL_law (wsV RL 112 RX2 yX2_broken wsX2_broken) := goodIn_app (goodIn_of _ (by decide +kernel)) ggL_law_X2_broken
set_option maxRecDepth 20000 in
theorem ggL_law_X1_leavesNext : GoodIn wsL_law wsX1_leavesNext := goodIn_r _ [369, 18, 16, 23, 22, 172, 173, 174, 15, 175, 31, 32, 176, 177, 178, 179, 86, 87, 88, 89, 180, 181, 182, 183, 184, 185, 186, 165, 166, 167, 168, 169, 170, 171, 187, 188, 189, 190, 191, 192, 193, 90, 91, 92, 93, 194, 195, 196, 197, 82, 83, 84, 85, 198, 199, 200, 201, 202, 203, 204, 205, 139, 140, 141, 142, 98, 2, 99, 161, 162, 163, 164, 426, 427, 428, 429, 430, 431, 432, 433, 434, 435, 436, 445, 446] (by decide +kernel) (by decide +kernel)
set_option maxRecDepth 20000 in
theorem gL_law_X1_leavesNext : GoodIn wsL_law (wsV RL 113 RX1 yX1_leavesNext wsX1_leavesNext) := goodIn_app (goodIn_of _ (by decide +kernel)) ggL_law_X1_leavesNext
set_option maxRecDepth 20000 in
theorem ggL_law_X2_leavesNext : GoodIn wsL_law wsX2_leavesNext := goodIn_r _ [373, 59, 231, 232, 233, 5, 234, 37, 235, 236, 237, 238, 239, 240, 241, 242, 243, 244, 245, 246, 223, 224, 225, 226, 60, 105, 106, 107, 247, 248, 249, 250, 227, 228, 229, 230, 251, 252, 253, 254, 38, 219, 220, 221, 222, 215, 216, 217, 218, 437, 438, 439, 440, 441, 442, 443, 444] (by decide +kernel) (by decide +kernel)
set_option maxRecDepth 20000 in
theorem gL_law_X2_leavesNext : GoodIn wsL_law (wsV RL 116 RX2 yX2_leavesNext wsX2_leavesNext) := goodIn_app (goodIn_of _ (by decide +kernel)) ggL_law_X2_leavesNext
set_option maxRecDepth 20000 in
theorem ggL_law_X1_repeatsIn : GoodIn wsL_law wsX1_repeatsIn := goodIn_r _ [377, 16, 17, 18, 23, 22, 378, 379, 380, 15, 381, 32, 206, 207, 208, 209, 31, 382, 383, 384, 2, 385, 19, 20, 386, 387, 388, 389, 86, 87, 88, 89, 172, 173, 174, 175, 176, 177, 178, 179, 180, 181, 182, 183, 184, 185, 186, 165, 166, 167, 168, 169, 170, 171, 187, 188, 189, 190, 191, 192, 193, 90, 91, 92, 93, 194, 195, 196, 197, 82, 83, 84, 85, 198, 199, 200, 201, 202, 203, 204, 205, 139, 140, 141, 142, 98, 99, 390, 391, 392, 393, 426, 427, 428, 429, 430, 431, 432, 433, 434, 435, 436, 445, 446] (by decide +kernel) (by decide +kernel)
set_option maxRecDepth 20000 in
theorem gL_law_X1_repeatsIn : GoodIn wsL_law (wsV RL 117 RX1 yX1_repeatsIn wsX1_repeatsIn) := goodIn_app (goodIn_of _ (by decide +kernel)) ggL_law_X1_repeatsIn
set_option maxRecDepth 20000 in
theorem ggL_law_X2_repeatsIn : GoodIn wsL_law wsX2_repeatsIn := goodIn_r _ [397, 59, 231, 232, 233, 5, 234, 37, 235, 236, 237, 238, 239, 240, 241, 242, 243, 244, 245, 246, 223, 224, 225, 226, 60, 105, 106, 107, 247, 248, 249, 250, 227, 228, 229, 230, 251, 252, 253, 254, 38, 219, 220, 221, 222, 398, 399, 400, 401, 437, 438, 439, 440, 441, 442, 443, 444] (by decide +kernel) (by decide +kernel)
set_option maxRecDepth 20000 in
theorem gL_law_X2_repeatsIn : GoodIn wsL_law (wsV RL 120 RX2 yX2_repeatsIn wsX2_repeatsIn) := goodIn_app (goodIn_of _ (by decide +kernel)) ggL_law_X2_repeatsIn
set_option maxRecDepth 20000 in
theorem ggL_law_X1_bestCut : GoodIn wsL_law wsX1_bestCut := goodIn_r _ [405, 16, 130, 83, 84, 15, 85, 86, 87, 88, 89, 31, 406, 407, 408, 2, 409, 17, 18, 23, 22, 206, 207, 208, 209, 32, 135, 136, 137, 138, 139, 140, 141, 142, 98, 99, 172, 173, 174, 175, 176, 177, 178, 179, 180, 181, 182, 183, 184, 185, 186, 165, 166, 167, 168, 169, 170, 171, 187, 188, 189, 190, 191, 192, 193, 90, 91, 92, 93, 194, 195, 196, 197, 82, 198, 199, 200, 201, 202, 203, 204, 205, 333, 334, 335, 336, 426, 427, 428, 429, 430, 431, 432, 433, 434, 435, 436, 445, 446] (by decide +kernel) (by decide +kernel)
set_option maxRecDepth 20000 in
theorem gL_law_X1_bestCut : GoodIn wsL_law (wsV RL 121 RX1 yX1_bestCut wsX1_bestCut) := goodIn_app (goodIn_of _ (by decide +kernel)) ggL_law_X1_bestCut
set_option maxRecDepth 20000 in
theorem ggL_law_X2_bestCut : GoodIn wsL_law wsX2_bestCut := goodIn_r _ [413, 59, 37, 255, 256, 257, 5, 258, 231, 232, 233, 234, 235, 236, 237, 238, 239, 240, 241, 242, 243, 244, 245, 246, 223, 224, 225, 226, 60, 105, 106, 107, 247, 248, 249, 250, 227, 228, 229, 230, 251, 252, 253, 254, 38, 219, 220, 221, 222, 341, 342, 343, 344, 437, 438, 439, 440, 441, 442, 443, 444] (by decide +kernel) (by decide +kernel)
set_option maxRecDepth 20000 in
theorem gL_law_X2_bestCut : GoodIn wsL_law (wsV RL 124 RX2 yX2_bestCut wsX2_bestCut) := goodIn_app (goodIn_of _ (by decide +kernel)) ggL_law_X2_bestCut
set_option maxRecDepth 20000 in
theorem ggL_law_X1_clear : GoodIn wsL_law wsX1_clear := goodIn_r _ [417, 16, 24, 25, 26, 27, 418, 419, 420, 15, 421, 31, 32, 426, 427, 428, 429, 430, 431, 432, 433, 434, 435, 436, 445, 446] (by decide +kernel) (by decide +kernel)
set_option maxRecDepth 20000 in
theorem gL_law_X1_clear : GoodIn wsL_law (wsV RL 125 RX1 yX1_clear wsX1_clear) := goodIn_app (goodIn_of _ (by decide +kernel)) ggL_law_X1_clear
set_option maxRecDepth 20000 in
theorem ggL_law_X2_clear : GoodIn wsL_law wsX2_clear := goodIn_r _ [425, 59, 37, 58, 39, 104, 214, 437, 438, 439, 440, 441, 442, 443, 444] (by decide +kernel) (by decide +kernel)
set_option maxRecDepth 20000 in
theorem gL_law_X2_clear : GoodIn wsL_law (wsV RL 128 RX2 yX2_clear wsX2_clear) := goodIn_app (goodIn_of _ (by decide +kernel)) ggL_law_X2_clear
theorem dL_law_0 : decode cL_law 0 = .ok (.new 8, 3) := by decide +kernel
theorem dL_law_3 : decode cL_law 3 = .ok (.dup, 1) := by decide +kernel
theorem dL_law_4 : decode cL_law 4 = .ok (.invokespecial 50, 3) := by decide +kernel
theorem dL_law_7 : decode cL_law 7 = .ok (.astore_n 1, 1) := by decide +kernel
theorem dL_law_8 : decode cL_law 8 = .ok (.new 51, 3) := by decide +kernel
theorem dL_law_11 : decode cL_law 11 = .ok (.dup, 1) := by decide +kernel
theorem dL_law_12 : decode cL_law 12 = .ok (.invokespecial 53, 3) := by decide +kernel
theorem dL_law_15 : decode cL_law 15 = .ok (.astore_n 2, 1) := by decide +kernel
theorem dL_law_16 : decode cL_law 16 = .ok (.iconst 1, 1) := by decide +kernel
theorem dL_law_17 : decode cL_law 17 = .ok (.newarray .long, 2) := by decide +kernel
theorem dL_law_19 : decode cL_law 19 = .ok (.astore_n 3, 1) := by decide +kernel
theorem dL_law_20 : decode cL_law 20 = .ok (.iconst 0, 1) := by decide +kernel
theorem dL_law_21 : decode cL_law 21 = .ok (.istore 4, 2) := by decide +kernel
theorem dL_law_23 : decode cL_law 23 = .ok (.iload 4, 2) := by decide +kernel
theorem dL_law_25 : decode cL_law 25 = .ok (.aload_n 0, 1) := by decide +kernel
theorem dL_law_26 : decode cL_law 26 = .ok (.arraylength, 1) := by decide +kernel
theorem dL_law_27 : decode cL_law 27 = .ok (.iconst 3, 1) := by decide +kernel
theorem dL_law_28 : decode cL_law 28 = .ok (.isub, 1) := by decide +kernel
theorem dL_law_29 : decode cL_law 29 = .ok (.if_icmp .gt 800, 3) := by decide +kernel
theorem dL_law_32 : decode cL_law 32 = .ok (.aload_n 0, 1) := by decide +kernel
theorem dL_law_33 : decode cL_law 33 = .ok (.iload 4, 2) := by decide +kernel
theorem dL_law_35 : decode cL_law 35 = .ok (.iaload, 1) := by decide +kernel
theorem dL_law_36 : decode cL_law 36 = .ok (.bipush 31, 2) := by decide +kernel
theorem dL_law_38 : decode cL_law 38 = .ok (.iand, 1) := by decide +kernel
theorem dL_law_39 : decode cL_law 39 = .ok (.tableswitch 784 0 18 #[89, 125, 161, 229, 297, 341, 409, 477, 545, 613, 669, 682, 695, 708, 721, 734, 747, 760, 773], 89) := by decide +kernel
theorem dL_law_128 : decode cL_law 128 = .ok (.aload_n 1, 1) := by decide +kernel
theorem dL_law_129 : decode cL_law 129 = .ok (.aload_n 0, 1) := by decide +kernel
theorem dL_law_130 : decode cL_law 130 = .ok (.iload 4, 2) := by decide +kernel
theorem dL_law_132 : decode cL_law 132 = .ok (.iconst 1, 1) := by decide +kernel
theorem dL_law_133 : decode cL_law 133 = .ok (.iadd, 1) := by decide +kernel
theorem dL_law_134 : decode cL_law 134 = .ok (.iaload, 1) := by decide +kernel
theorem dL_law_135 : decode cL_law 135 = .ok (.invokestatic 54, 3) := by decide +kernel
theorem dL_law_138 : decode cL_law 138 = .ok (.istore 5, 2) := by decide +kernel
theorem dL_law_140 : decode cL_law 140 = .ok (.aload_n 2, 1) := by decide +kernel
theorem dL_law_141 : decode cL_law 141 = .ok (.aload_n 0, 1) := by decide +kernel
theorem dL_law_142 : decode cL_law 142 = .ok (.iload 4, 2) := by decide +kernel
theorem dL_law_144 : decode cL_law 144 = .ok (.iconst 1, 1) := by decide +kernel
theorem dL_law_145 : decode cL_law 145 = .ok (.iadd, 1) := by decide +kernel
theorem dL_law_146 : decode cL_law 146 = .ok (.iaload, 1) := by decide +kernel
theorem dL_law_147 : decode cL_law 147 = .ok (.invokevirtual 59, 3) := by decide +kernel
theorem dL_law_150 : decode cL_law 150 = .ok (.aload_n 2, 1) := by decide +kernel
theorem dL_law_151 : decode cL_law 151 = .ok (.invokevirtual 60, 3) := by decide +kernel
theorem dL_law_154 : decode cL_law 154 = .ok (.iload 5, 2) := by decide +kernel
theorem dL_law_156 : decode cL_law 156 = .ok (.if_icmp .eq 5, 3) := by decide +kernel
theorem dL_law_159 : decode cL_law 159 = .ok (.iconst 0, 1) := by decide +kernel
theorem dL_law_160 : decode cL_law 160 = .ok (.ireturn, 1) := by decide +kernel
theorem dL_law_161 : decode cL_law 161 = .ok (.goto 662, 3) := by decide +kernel
theorem dL_law_164 : decode cL_law 164 = .ok (.aload_n 1, 1) := by decide +kernel
theorem dL_law_165 : decode cL_law 165 = .ok (.aload_n 0, 1) := by decide +kernel
theorem dL_law_166 : decode cL_law 166 = .ok (.iload 4, 2) := by decide +kernel
theorem dL_law_168 : decode cL_law 168 = .ok (.iconst 1, 1) := by decide +kernel
theorem dL_law_169 : decode cL_law 169 = .ok (.iadd, 1) := by decide +kernel
theorem dL_law_170 : decode cL_law 170 = .ok (.iaload, 1) := by decide +kernel
theorem dL_law_171 : decode cL_law 171 = .ok (.invokestatic 63, 3) := by decide +kernel
theorem dL_law_174 : decode cL_law 174 = .ok (.istore 5, 2) := by decide +kernel
theorem dL_law_176 : decode cL_law 176 = .ok (.aload_n 2, 1) := by decide +kernel
theorem dL_law_177 : decode cL_law 177 = .ok (.aload_n 0, 1) := by decide +kernel
theorem dL_law_178 : decode cL_law 178 = .ok (.iload 4, 2) := by decide +kernel
theorem dL_law_180 : decode cL_law 180 = .ok (.iconst 1, 1) := by decide +kernel
theorem dL_law_181 : decode cL_law 181 = .ok (.iadd, 1) := by decide +kernel
theorem dL_law_182 : decode cL_law 182 = .ok (.iaload, 1) := by decide +kernel
theorem dL_law_183 : decode cL_law 183 = .ok (.invokevirtual 65, 3) := by decide +kernel
theorem dL_law_186 : decode cL_law 186 = .ok (.aload_n 2, 1) := by decide +kernel
theorem dL_law_187 : decode cL_law 187 = .ok (.invokevirtual 60, 3) := by decide +kernel
theorem dL_law_190 : decode cL_law 190 = .ok (.iload 5, 2) := by decide +kernel
theorem dL_law_192 : decode cL_law 192 = .ok (.if_icmp .eq 5, 3) := by decide +kernel
theorem dL_law_195 : decode cL_law 195 = .ok (.iconst 0, 1) := by decide +kernel
theorem dL_law_196 : decode cL_law 196 = .ok (.ireturn, 1) := by decide +kernel
theorem dL_law_197 : decode cL_law 197 = .ok (.goto 626, 3) := by decide +kernel
theorem dL_law_200 : decode cL_law 200 = .ok (.aload_n 1, 1) := by decide +kernel
theorem dL_law_201 : decode cL_law 201 = .ok (.aload_n 0, 1) := by decide +kernel
theorem dL_law_202 : decode cL_law 202 = .ok (.iload 4, 2) := by decide +kernel
theorem dL_law_204 : decode cL_law 204 = .ok (.iconst 1, 1) := by decide +kernel
theorem dL_law_205 : decode cL_law 205 = .ok (.iadd, 1) := by decide +kernel
theorem dL_law_206 : decode cL_law 206 = .ok (.iaload, 1) := by decide +kernel
theorem dL_law_207 : decode cL_law 207 = .ok (.aload_n 0, 1) := by decide +kernel
theorem dL_law_208 : decode cL_law 208 = .ok (.iload 4, 2) := by decide +kernel
theorem dL_law_210 : decode cL_law 210 = .ok (.iconst 2, 1) := by decide +kernel
theorem dL_law_211 : decode cL_law 211 = .ok (.iadd, 1) := by decide +kernel
theorem dL_law_212 : decode cL_law 212 = .ok (.iaload, 1) := by decide +kernel
theorem dL_law_213 : decode cL_law 213 = .ok (.aload_n 3, 1) := by decide +kernel
theorem dL_law_214 : decode cL_law 214 = .ok (.invokestatic 66, 3) := by decide +kernel
theorem dL_law_217 : decode cL_law 217 = .ok (.istore 5, 2) := by decide +kernel
theorem dL_law_219 : decode cL_law 219 = .ok (.aload_n 2, 1) := by decide +kernel
theorem dL_law_220 : decode cL_law 220 = .ok (.aload_n 0, 1) := by decide +kernel
theorem dL_law_221 : decode cL_law 221 = .ok (.iload 4, 2) := by decide +kernel
theorem dL_law_223 : decode cL_law 223 = .ok (.iconst 1, 1) := by decide +kernel
theorem dL_law_224 : decode cL_law 224 = .ok (.iadd, 1) := by decide +kernel
theorem dL_law_225 : decode cL_law 225 = .ok (.iaload, 1) := by decide +kernel
theorem dL_law_226 : decode cL_law 226 = .ok (.aload_n 0, 1) := by decide +kernel
theorem dL_law_227 : decode cL_law 227 = .ok (.iload 4, 2) := by decide +kernel
theorem dL_law_229 : decode cL_law 229 = .ok (.iconst 2, 1) := by decide +kernel
theorem dL_law_230 : decode cL_law 230 = .ok (.iadd, 1) := by decide +kernel
theorem dL_law_231 : decode cL_law 231 = .ok (.iaload, 1) := by decide +kernel
theorem dL_law_232 : decode cL_law 232 = .ok (.invokevirtual 69, 3) := by decide +kernel
theorem dL_law_235 : decode cL_law 235 = .ok (.istore 6, 2) := by decide +kernel
theorem dL_law_237 : decode cL_law 237 = .ok (.aload_n 2, 1) := by decide +kernel
theorem dL_law_238 : decode cL_law 238 = .ok (.invokevirtual 60, 3) := by decide +kernel
theorem dL_law_241 : decode cL_law 241 = .ok (.iload 5, 2) := by decide +kernel
theorem dL_law_243 : decode cL_law 243 = .ok (.if_icmp .eq 5, 3) := by decide +kernel
theorem dL_law_246 : decode cL_law 246 = .ok (.iconst 0, 1) := by decide +kernel
theorem dL_law_247 : decode cL_law 247 = .ok (.ireturn, 1) := by decide +kernel
theorem dL_law_248 : decode cL_law 248 = .ok (.iload 5, 2) := by decide +kernel
theorem dL_law_250 : decode cL_law 250 = .ok (.ifCond .ne 15, 3) := by decide +kernel
theorem dL_law_253 : decode cL_law 253 = .ok (.aload_n 3, 1) := by decide +kernel
theorem dL_law_254 : decode cL_law 254 = .ok (.iconst 0, 1) := by decide +kernel
theorem dL_law_255 : decode cL_law 255 = .ok (.laload, 1) := by decide +kernel
theorem dL_law_256 : decode cL_law 256 = .ok (.iload 6, 2) := by decide +kernel
theorem dL_law_258 : decode cL_law 258 = .ok (.i2l, 1) := by decide +kernel
theorem dL_law_259 : decode cL_law 259 = .ok (.lcmp, 1) := by decide +kernel
theorem dL_law_260 : decode cL_law 260 = .ok (.ifCond .eq 5, 3) := by decide +kernel
theorem dL_law_263 : decode cL_law 263 = .ok (.iconst 0, 1) := by decide +kernel
theorem dL_law_264 : decode cL_law 264 = .ok (.ireturn, 1) := by decide +kernel
theorem dL_law_265 : decode cL_law 265 = .ok (.goto 558, 3) := by decide +kernel
theorem dL_law_268 : decode cL_law 268 = .ok (.aload_n 1, 1) := by decide +kernel
theorem dL_law_269 : decode cL_law 269 = .ok (.aload_n 0, 1) := by decide +kernel
theorem dL_law_270 : decode cL_law 270 = .ok (.iload 4, 2) := by decide +kernel
theorem dL_law_272 : decode cL_law 272 = .ok (.iconst 1, 1) := by decide +kernel
theorem dL_law_273 : decode cL_law 273 = .ok (.iadd, 1) := by decide +kernel
theorem dL_law_274 : decode cL_law 274 = .ok (.iaload, 1) := by decide +kernel
theorem dL_law_275 : decode cL_law 275 = .ok (.aload_n 0, 1) := by decide +kernel
theorem dL_law_276 : decode cL_law 276 = .ok (.iload 4, 2) := by decide +kernel
theorem dL_law_278 : decode cL_law 278 = .ok (.iconst 2, 1) := by decide +kernel
theorem dL_law_279 : decode cL_law 279 = .ok (.iadd, 1) := by decide +kernel
theorem dL_law_280 : decode cL_law 280 = .ok (.iaload, 1) := by decide +kernel
theorem dL_law_281 : decode cL_law 281 = .ok (.aload_n 3, 1) := by decide +kernel
theorem dL_law_282 : decode cL_law 282 = .ok (.invokestatic 70, 3) := by decide +kernel
theorem dL_law_285 : decode cL_law 285 = .ok (.istore 5, 2) := by decide +kernel
theorem dL_law_287 : decode cL_law 287 = .ok (.aload_n 2, 1) := by decide +kernel
theorem dL_law_288 : decode cL_law 288 = .ok (.aload_n 0, 1) := by decide +kernel
theorem dL_law_289 : decode cL_law 289 = .ok (.iload 4, 2) := by decide +kernel
theorem dL_law_291 : decode cL_law 291 = .ok (.iconst 1, 1) := by decide +kernel
theorem dL_law_292 : decode cL_law 292 = .ok (.iadd, 1) := by decide +kernel
theorem dL_law_293 : decode cL_law 293 = .ok (.iaload, 1) := by decide +kernel
theorem dL_law_294 : decode cL_law 294 = .ok (.aload_n 0, 1) := by decide +kernel
theorem dL_law_295 : decode cL_law 295 = .ok (.iload 4, 2) := by decide +kernel
theorem dL_law_297 : decode cL_law 297 = .ok (.iconst 2, 1) := by decide +kernel
theorem dL_law_298 : decode cL_law 298 = .ok (.iadd, 1) := by decide +kernel
theorem dL_law_299 : decode cL_law 299 = .ok (.iaload, 1) := by decide +kernel
theorem dL_law_300 : decode cL_law 300 = .ok (.invokevirtual 72, 3) := by decide +kernel
theorem dL_law_303 : decode cL_law 303 = .ok (.istore 6, 2) := by decide +kernel
theorem dL_law_305 : decode cL_law 305 = .ok (.aload_n 2, 1) := by decide +kernel
theorem dL_law_306 : decode cL_law 306 = .ok (.invokevirtual 60, 3) := by decide +kernel
theorem dL_law_309 : decode cL_law 309 = .ok (.iload 5, 2) := by decide +kernel
theorem dL_law_311 : decode cL_law 311 = .ok (.if_icmp .eq 5, 3) := by decide +kernel
theorem dL_law_314 : decode cL_law 314 = .ok (.iconst 0, 1) := by decide +kernel
theorem dL_law_315 : decode cL_law 315 = .ok (.ireturn, 1) := by decide +kernel
theorem dL_law_316 : decode cL_law 316 = .ok (.iload 5, 2) := by decide +kernel
theorem dL_law_318 : decode cL_law 318 = .ok (.ifCond .ne 15, 3) := by decide +kernel
theorem dL_law_321 : decode cL_law 321 = .ok (.aload_n 3, 1) := by decide +kernel
theorem dL_law_322 : decode cL_law 322 = .ok (.iconst 0, 1) := by decide +kernel
theorem dL_law_323 : decode cL_law 323 = .ok (.laload, 1) := by decide +kernel
theorem dL_law_324 : decode cL_law 324 = .ok (.iload 6, 2) := by decide +kernel
theorem dL_law_326 : decode cL_law 326 = .ok (.i2l, 1) := by decide +kernel
theorem dL_law_327 : decode cL_law 327 = .ok (.lcmp, 1) := by decide +kernel
theorem dL_law_328 : decode cL_law 328 = .ok (.ifCond .eq 5, 3) := by decide +kernel
theorem dL_law_331 : decode cL_law 331 = .ok (.iconst 0, 1) := by decide +kernel
theorem dL_law_332 : decode cL_law 332 = .ok (.ireturn, 1) := by decide +kernel
theorem dL_law_333 : decode cL_law 333 = .ok (.goto 490, 3) := by decide +kernel
theorem dL_law_336 : decode cL_law 336 = .ok (.aload_n 1, 1) := by decide +kernel
theorem dL_law_337 : decode cL_law 337 = .ok (.aload_n 3, 1) := by decide +kernel
theorem dL_law_338 : decode cL_law 338 = .ok (.invokestatic 73, 3) := by decide +kernel
theorem dL_law_341 : decode cL_law 341 = .ok (.istore 5, 2) := by decide +kernel
theorem dL_law_343 : decode cL_law 343 = .ok (.aload_n 2, 1) := by decide +kernel
theorem dL_law_344 : decode cL_law 344 = .ok (.invokevirtual 76, 3) := by decide +kernel
theorem dL_law_347 : decode cL_law 347 = .ok (.istore 6, 2) := by decide +kernel
theorem dL_law_349 : decode cL_law 349 = .ok (.aload_n 2, 1) := by decide +kernel
theorem dL_law_350 : decode cL_law 350 = .ok (.invokevirtual 60, 3) := by decide +kernel
theorem dL_law_353 : decode cL_law 353 = .ok (.iload 5, 2) := by decide +kernel
theorem dL_law_355 : decode cL_law 355 = .ok (.if_icmp .eq 5, 3) := by decide +kernel
theorem dL_law_358 : decode cL_law 358 = .ok (.iconst 0, 1) := by decide +kernel
theorem dL_law_359 : decode cL_law 359 = .ok (.ireturn, 1) := by decide +kernel
theorem dL_law_360 : decode cL_law 360 = .ok (.iload 5, 2) := by decide +kernel
theorem dL_law_362 : decode cL_law 362 = .ok (.ifCond .ne 15, 3) := by decide +kernel
theorem dL_law_365 : decode cL_law 365 = .ok (.aload_n 3, 1) := by decide +kernel
theorem dL_law_366 : decode cL_law 366 = .ok (.iconst 0, 1) := by decide +kernel
theorem dL_law_367 : decode cL_law 367 = .ok (.laload, 1) := by decide +kernel
theorem dL_law_368 : decode cL_law 368 = .ok (.iload 6, 2) := by decide +kernel
theorem dL_law_370 : decode cL_law 370 = .ok (.i2l, 1) := by decide +kernel
theorem dL_law_371 : decode cL_law 371 = .ok (.lcmp, 1) := by decide +kernel
theorem dL_law_372 : decode cL_law 372 = .ok (.ifCond .eq 5, 3) := by decide +kernel
theorem dL_law_375 : decode cL_law 375 = .ok (.iconst 0, 1) := by decide +kernel
theorem dL_law_376 : decode cL_law 376 = .ok (.ireturn, 1) := by decide +kernel
theorem dL_law_377 : decode cL_law 377 = .ok (.goto 446, 3) := by decide +kernel
theorem dL_law_380 : decode cL_law 380 = .ok (.aload_n 1, 1) := by decide +kernel
theorem dL_law_381 : decode cL_law 381 = .ok (.aload_n 0, 1) := by decide +kernel
theorem dL_law_382 : decode cL_law 382 = .ok (.iload 4, 2) := by decide +kernel
theorem dL_law_384 : decode cL_law 384 = .ok (.iconst 1, 1) := by decide +kernel
theorem dL_law_385 : decode cL_law 385 = .ok (.iadd, 1) := by decide +kernel
theorem dL_law_386 : decode cL_law 386 = .ok (.iaload, 1) := by decide +kernel
theorem dL_law_387 : decode cL_law 387 = .ok (.aload_n 0, 1) := by decide +kernel
theorem dL_law_388 : decode cL_law 388 = .ok (.iload 4, 2) := by decide +kernel
theorem dL_law_390 : decode cL_law 390 = .ok (.iconst 2, 1) := by decide +kernel
theorem dL_law_391 : decode cL_law 391 = .ok (.iadd, 1) := by decide +kernel
theorem dL_law_392 : decode cL_law 392 = .ok (.iaload, 1) := by decide +kernel
theorem dL_law_393 : decode cL_law 393 = .ok (.aload_n 3, 1) := by decide +kernel
theorem dL_law_394 : decode cL_law 394 = .ok (.invokestatic 77, 3) := by decide +kernel
theorem dL_law_397 : decode cL_law 397 = .ok (.istore 5, 2) := by decide +kernel
theorem dL_law_399 : decode cL_law 399 = .ok (.aload_n 2, 1) := by decide +kernel
theorem dL_law_400 : decode cL_law 400 = .ok (.aload_n 0, 1) := by decide +kernel
theorem dL_law_401 : decode cL_law 401 = .ok (.iload 4, 2) := by decide +kernel
theorem dL_law_403 : decode cL_law 403 = .ok (.iconst 1, 1) := by decide +kernel
theorem dL_law_404 : decode cL_law 404 = .ok (.iadd, 1) := by decide +kernel
theorem dL_law_405 : decode cL_law 405 = .ok (.iaload, 1) := by decide +kernel
theorem dL_law_406 : decode cL_law 406 = .ok (.aload_n 0, 1) := by decide +kernel
theorem dL_law_407 : decode cL_law 407 = .ok (.iload 4, 2) := by decide +kernel
theorem dL_law_409 : decode cL_law 409 = .ok (.iconst 2, 1) := by decide +kernel
theorem dL_law_410 : decode cL_law 410 = .ok (.iadd, 1) := by decide +kernel
theorem dL_law_411 : decode cL_law 411 = .ok (.iaload, 1) := by decide +kernel
theorem dL_law_412 : decode cL_law 412 = .ok (.invokevirtual 79, 3) := by decide +kernel
theorem dL_law_415 : decode cL_law 415 = .ok (.istore 6, 2) := by decide +kernel
theorem dL_law_417 : decode cL_law 417 = .ok (.aload_n 2, 1) := by decide +kernel
theorem dL_law_418 : decode cL_law 418 = .ok (.invokevirtual 60, 3) := by decide +kernel
theorem dL_law_421 : decode cL_law 421 = .ok (.iload 5, 2) := by decide +kernel
theorem dL_law_423 : decode cL_law 423 = .ok (.if_icmp .eq 5, 3) := by decide +kernel
theorem dL_law_426 : decode cL_law 426 = .ok (.iconst 0, 1) := by decide +kernel
theorem dL_law_427 : decode cL_law 427 = .ok (.ireturn, 1) := by decide +kernel
theorem dL_law_428 : decode cL_law 428 = .ok (.iload 5, 2) := by decide +kernel
theorem dL_law_430 : decode cL_law 430 = .ok (.ifCond .ne 15, 3) := by decide +kernel
theorem dL_law_433 : decode cL_law 433 = .ok (.aload_n 3, 1) := by decide +kernel
theorem dL_law_434 : decode cL_law 434 = .ok (.iconst 0, 1) := by decide +kernel
theorem dL_law_435 : decode cL_law 435 = .ok (.laload, 1) := by decide +kernel
theorem dL_law_436 : decode cL_law 436 = .ok (.iload 6, 2) := by decide +kernel
theorem dL_law_438 : decode cL_law 438 = .ok (.i2l, 1) := by decide +kernel
theorem dL_law_439 : decode cL_law 439 = .ok (.lcmp, 1) := by decide +kernel
theorem dL_law_440 : decode cL_law 440 = .ok (.ifCond .eq 5, 3) := by decide +kernel
theorem dL_law_443 : decode cL_law 443 = .ok (.iconst 0, 1) := by decide +kernel
theorem dL_law_444 : decode cL_law 444 = .ok (.ireturn, 1) := by decide +kernel
theorem dL_law_445 : decode cL_law 445 = .ok (.goto 378, 3) := by decide +kernel
theorem dL_law_448 : decode cL_law 448 = .ok (.aload_n 1, 1) := by decide +kernel
theorem dL_law_449 : decode cL_law 449 = .ok (.aload_n 0, 1) := by decide +kernel
theorem dL_law_450 : decode cL_law 450 = .ok (.iload 4, 2) := by decide +kernel
theorem dL_law_452 : decode cL_law 452 = .ok (.iconst 1, 1) := by decide +kernel
theorem dL_law_453 : decode cL_law 453 = .ok (.iadd, 1) := by decide +kernel
theorem dL_law_454 : decode cL_law 454 = .ok (.iaload, 1) := by decide +kernel
theorem dL_law_455 : decode cL_law 455 = .ok (.aload_n 0, 1) := by decide +kernel
theorem dL_law_456 : decode cL_law 456 = .ok (.iload 4, 2) := by decide +kernel
theorem dL_law_458 : decode cL_law 458 = .ok (.iconst 2, 1) := by decide +kernel
theorem dL_law_459 : decode cL_law 459 = .ok (.iadd, 1) := by decide +kernel
theorem dL_law_460 : decode cL_law 460 = .ok (.iaload, 1) := by decide +kernel
theorem dL_law_461 : decode cL_law 461 = .ok (.aload_n 3, 1) := by decide +kernel
theorem dL_law_462 : decode cL_law 462 = .ok (.invokestatic 80, 3) := by decide +kernel
theorem dL_law_465 : decode cL_law 465 = .ok (.istore 5, 2) := by decide +kernel
theorem dL_law_467 : decode cL_law 467 = .ok (.aload_n 2, 1) := by decide +kernel
theorem dL_law_468 : decode cL_law 468 = .ok (.aload_n 0, 1) := by decide +kernel
theorem dL_law_469 : decode cL_law 469 = .ok (.iload 4, 2) := by decide +kernel
theorem dL_law_471 : decode cL_law 471 = .ok (.iconst 1, 1) := by decide +kernel
theorem dL_law_472 : decode cL_law 472 = .ok (.iadd, 1) := by decide +kernel
theorem dL_law_473 : decode cL_law 473 = .ok (.iaload, 1) := by decide +kernel
theorem dL_law_474 : decode cL_law 474 = .ok (.aload_n 0, 1) := by decide +kernel
theorem dL_law_475 : decode cL_law 475 = .ok (.iload 4, 2) := by decide +kernel
theorem dL_law_477 : decode cL_law 477 = .ok (.iconst 2, 1) := by decide +kernel
theorem dL_law_478 : decode cL_law 478 = .ok (.iadd, 1) := by decide +kernel
theorem dL_law_479 : decode cL_law 479 = .ok (.iaload, 1) := by decide +kernel
theorem dL_law_480 : decode cL_law 480 = .ok (.invokevirtual 82, 3) := by decide +kernel
theorem dL_law_483 : decode cL_law 483 = .ok (.istore 6, 2) := by decide +kernel
theorem dL_law_485 : decode cL_law 485 = .ok (.aload_n 2, 1) := by decide +kernel
theorem dL_law_486 : decode cL_law 486 = .ok (.invokevirtual 60, 3) := by decide +kernel
theorem dL_law_489 : decode cL_law 489 = .ok (.iload 5, 2) := by decide +kernel
theorem dL_law_491 : decode cL_law 491 = .ok (.if_icmp .eq 5, 3) := by decide +kernel
theorem dL_law_494 : decode cL_law 494 = .ok (.iconst 0, 1) := by decide +kernel
theorem dL_law_495 : decode cL_law 495 = .ok (.ireturn, 1) := by decide +kernel
theorem dL_law_496 : decode cL_law 496 = .ok (.iload 5, 2) := by decide +kernel
theorem dL_law_498 : decode cL_law 498 = .ok (.ifCond .ne 15, 3) := by decide +kernel
theorem dL_law_501 : decode cL_law 501 = .ok (.aload_n 3, 1) := by decide +kernel
theorem dL_law_502 : decode cL_law 502 = .ok (.iconst 0, 1) := by decide +kernel
theorem dL_law_503 : decode cL_law 503 = .ok (.laload, 1) := by decide +kernel
theorem dL_law_504 : decode cL_law 504 = .ok (.iload 6, 2) := by decide +kernel
theorem dL_law_506 : decode cL_law 506 = .ok (.i2l, 1) := by decide +kernel
theorem dL_law_507 : decode cL_law 507 = .ok (.lcmp, 1) := by decide +kernel
theorem dL_law_508 : decode cL_law 508 = .ok (.ifCond .eq 5, 3) := by decide +kernel
theorem dL_law_511 : decode cL_law 511 = .ok (.iconst 0, 1) := by decide +kernel
theorem dL_law_512 : decode cL_law 512 = .ok (.ireturn, 1) := by decide +kernel
theorem dL_law_513 : decode cL_law 513 = .ok (.goto 310, 3) := by decide +kernel
theorem dL_law_516 : decode cL_law 516 = .ok (.aload_n 1, 1) := by decide +kernel
theorem dL_law_517 : decode cL_law 517 = .ok (.aload_n 0, 1) := by decide +kernel
theorem dL_law_518 : decode cL_law 518 = .ok (.iload 4, 2) := by decide +kernel
theorem dL_law_520 : decode cL_law 520 = .ok (.iconst 1, 1) := by decide +kernel
theorem dL_law_521 : decode cL_law 521 = .ok (.iadd, 1) := by decide +kernel
theorem dL_law_522 : decode cL_law 522 = .ok (.iaload, 1) := by decide +kernel
theorem dL_law_523 : decode cL_law 523 = .ok (.aload_n 0, 1) := by decide +kernel
theorem dL_law_524 : decode cL_law 524 = .ok (.iload 4, 2) := by decide +kernel
theorem dL_law_526 : decode cL_law 526 = .ok (.iconst 2, 1) := by decide +kernel
theorem dL_law_527 : decode cL_law 527 = .ok (.iadd, 1) := by decide +kernel
theorem dL_law_528 : decode cL_law 528 = .ok (.iaload, 1) := by decide +kernel
theorem dL_law_529 : decode cL_law 529 = .ok (.aload_n 3, 1) := by decide +kernel
theorem dL_law_530 : decode cL_law 530 = .ok (.invokestatic 83, 3) := by decide +kernel
theorem dL_law_533 : decode cL_law 533 = .ok (.istore 5, 2) := by decide +kernel
theorem dL_law_535 : decode cL_law 535 = .ok (.aload_n 2, 1) := by decide +kernel
theorem dL_law_536 : decode cL_law 536 = .ok (.aload_n 0, 1) := by decide +kernel
theorem dL_law_537 : decode cL_law 537 = .ok (.iload 4, 2) := by decide +kernel
theorem dL_law_539 : decode cL_law 539 = .ok (.iconst 1, 1) := by decide +kernel
theorem dL_law_540 : decode cL_law 540 = .ok (.iadd, 1) := by decide +kernel
theorem dL_law_541 : decode cL_law 541 = .ok (.iaload, 1) := by decide +kernel
theorem dL_law_542 : decode cL_law 542 = .ok (.aload_n 0, 1) := by decide +kernel
theorem dL_law_543 : decode cL_law 543 = .ok (.iload 4, 2) := by decide +kernel
theorem dL_law_545 : decode cL_law 545 = .ok (.iconst 2, 1) := by decide +kernel
theorem dL_law_546 : decode cL_law 546 = .ok (.iadd, 1) := by decide +kernel
theorem dL_law_547 : decode cL_law 547 = .ok (.iaload, 1) := by decide +kernel
theorem dL_law_548 : decode cL_law 548 = .ok (.invokevirtual 85, 3) := by decide +kernel
theorem dL_law_551 : decode cL_law 551 = .ok (.istore 6, 2) := by decide +kernel
theorem dL_law_553 : decode cL_law 553 = .ok (.aload_n 2, 1) := by decide +kernel
theorem dL_law_554 : decode cL_law 554 = .ok (.invokevirtual 60, 3) := by decide +kernel
theorem dL_law_557 : decode cL_law 557 = .ok (.iload 5, 2) := by decide +kernel
theorem dL_law_559 : decode cL_law 559 = .ok (.if_icmp .eq 5, 3) := by decide +kernel
theorem dL_law_562 : decode cL_law 562 = .ok (.iconst 0, 1) := by decide +kernel
theorem dL_law_563 : decode cL_law 563 = .ok (.ireturn, 1) := by decide +kernel
theorem dL_law_564 : decode cL_law 564 = .ok (.iload 5, 2) := by decide +kernel
theorem dL_law_566 : decode cL_law 566 = .ok (.ifCond .ne 15, 3) := by decide +kernel
theorem dL_law_569 : decode cL_law 569 = .ok (.aload_n 3, 1) := by decide +kernel
theorem dL_law_570 : decode cL_law 570 = .ok (.iconst 0, 1) := by decide +kernel
theorem dL_law_571 : decode cL_law 571 = .ok (.laload, 1) := by decide +kernel
theorem dL_law_572 : decode cL_law 572 = .ok (.iload 6, 2) := by decide +kernel
theorem dL_law_574 : decode cL_law 574 = .ok (.i2l, 1) := by decide +kernel
theorem dL_law_575 : decode cL_law 575 = .ok (.lcmp, 1) := by decide +kernel
theorem dL_law_576 : decode cL_law 576 = .ok (.ifCond .eq 5, 3) := by decide +kernel
theorem dL_law_579 : decode cL_law 579 = .ok (.iconst 0, 1) := by decide +kernel
theorem dL_law_580 : decode cL_law 580 = .ok (.ireturn, 1) := by decide +kernel
theorem dL_law_581 : decode cL_law 581 = .ok (.goto 242, 3) := by decide +kernel
theorem dL_law_584 : decode cL_law 584 = .ok (.aload_n 1, 1) := by decide +kernel
theorem dL_law_585 : decode cL_law 585 = .ok (.aload_n 0, 1) := by decide +kernel
theorem dL_law_586 : decode cL_law 586 = .ok (.iload 4, 2) := by decide +kernel
theorem dL_law_588 : decode cL_law 588 = .ok (.iconst 1, 1) := by decide +kernel
theorem dL_law_589 : decode cL_law 589 = .ok (.iadd, 1) := by decide +kernel
theorem dL_law_590 : decode cL_law 590 = .ok (.iaload, 1) := by decide +kernel
theorem dL_law_591 : decode cL_law 591 = .ok (.aload_n 0, 1) := by decide +kernel
theorem dL_law_592 : decode cL_law 592 = .ok (.iload 4, 2) := by decide +kernel
theorem dL_law_594 : decode cL_law 594 = .ok (.iconst 2, 1) := by decide +kernel
theorem dL_law_595 : decode cL_law 595 = .ok (.iadd, 1) := by decide +kernel
theorem dL_law_596 : decode cL_law 596 = .ok (.iaload, 1) := by decide +kernel
theorem dL_law_597 : decode cL_law 597 = .ok (.aload_n 3, 1) := by decide +kernel
theorem dL_law_598 : decode cL_law 598 = .ok (.invokestatic 86, 3) := by decide +kernel
theorem dL_law_601 : decode cL_law 601 = .ok (.istore 5, 2) := by decide +kernel
theorem dL_law_603 : decode cL_law 603 = .ok (.aload_n 2, 1) := by decide +kernel
theorem dL_law_604 : decode cL_law 604 = .ok (.aload_n 0, 1) := by decide +kernel
theorem dL_law_605 : decode cL_law 605 = .ok (.iload 4, 2) := by decide +kernel
theorem dL_law_607 : decode cL_law 607 = .ok (.iconst 1, 1) := by decide +kernel
theorem dL_law_608 : decode cL_law 608 = .ok (.iadd, 1) := by decide +kernel
theorem dL_law_609 : decode cL_law 609 = .ok (.iaload, 1) := by decide +kernel
theorem dL_law_610 : decode cL_law 610 = .ok (.aload_n 0, 1) := by decide +kernel
theorem dL_law_611 : decode cL_law 611 = .ok (.iload 4, 2) := by decide +kernel
theorem dL_law_613 : decode cL_law 613 = .ok (.iconst 2, 1) := by decide +kernel
theorem dL_law_614 : decode cL_law 614 = .ok (.iadd, 1) := by decide +kernel
theorem dL_law_615 : decode cL_law 615 = .ok (.iaload, 1) := by decide +kernel
theorem dL_law_616 : decode cL_law 616 = .ok (.invokevirtual 88, 3) := by decide +kernel
theorem dL_law_619 : decode cL_law 619 = .ok (.istore 6, 2) := by decide +kernel
theorem dL_law_621 : decode cL_law 621 = .ok (.aload_n 2, 1) := by decide +kernel
theorem dL_law_622 : decode cL_law 622 = .ok (.invokevirtual 60, 3) := by decide +kernel
theorem dL_law_625 : decode cL_law 625 = .ok (.iload 5, 2) := by decide +kernel
theorem dL_law_627 : decode cL_law 627 = .ok (.if_icmp .eq 5, 3) := by decide +kernel
theorem dL_law_630 : decode cL_law 630 = .ok (.iconst 0, 1) := by decide +kernel
theorem dL_law_631 : decode cL_law 631 = .ok (.ireturn, 1) := by decide +kernel
theorem dL_law_632 : decode cL_law 632 = .ok (.iload 5, 2) := by decide +kernel
theorem dL_law_634 : decode cL_law 634 = .ok (.ifCond .ne 15, 3) := by decide +kernel
theorem dL_law_637 : decode cL_law 637 = .ok (.aload_n 3, 1) := by decide +kernel
theorem dL_law_638 : decode cL_law 638 = .ok (.iconst 0, 1) := by decide +kernel
theorem dL_law_639 : decode cL_law 639 = .ok (.laload, 1) := by decide +kernel
theorem dL_law_640 : decode cL_law 640 = .ok (.iload 6, 2) := by decide +kernel
theorem dL_law_642 : decode cL_law 642 = .ok (.i2l, 1) := by decide +kernel
theorem dL_law_643 : decode cL_law 643 = .ok (.lcmp, 1) := by decide +kernel
theorem dL_law_644 : decode cL_law 644 = .ok (.ifCond .eq 5, 3) := by decide +kernel
theorem dL_law_647 : decode cL_law 647 = .ok (.iconst 0, 1) := by decide +kernel
theorem dL_law_648 : decode cL_law 648 = .ok (.ireturn, 1) := by decide +kernel
theorem dL_law_649 : decode cL_law 649 = .ok (.goto 174, 3) := by decide +kernel
theorem dL_law_652 : decode cL_law 652 = .ok (.aload_n 1, 1) := by decide +kernel
theorem dL_law_653 : decode cL_law 653 = .ok (.aload_n 0, 1) := by decide +kernel
theorem dL_law_654 : decode cL_law 654 = .ok (.iload 4, 2) := by decide +kernel
theorem dL_law_656 : decode cL_law 656 = .ok (.iconst 1, 1) := by decide +kernel
theorem dL_law_657 : decode cL_law 657 = .ok (.iadd, 1) := by decide +kernel
theorem dL_law_658 : decode cL_law 658 = .ok (.iaload, 1) := by decide +kernel
theorem dL_law_659 : decode cL_law 659 = .ok (.aload_n 3, 1) := by decide +kernel
theorem dL_law_660 : decode cL_law 660 = .ok (.invokestatic 89, 3) := by decide +kernel
theorem dL_law_663 : decode cL_law 663 = .ok (.istore 5, 2) := by decide +kernel
theorem dL_law_665 : decode cL_law 665 = .ok (.aload_n 2, 1) := by decide +kernel
theorem dL_law_666 : decode cL_law 666 = .ok (.aload_n 0, 1) := by decide +kernel
theorem dL_law_667 : decode cL_law 667 = .ok (.iload 4, 2) := by decide +kernel
theorem dL_law_669 : decode cL_law 669 = .ok (.iconst 1, 1) := by decide +kernel
